/-! THE LAW'S OWN METHODS: their code and words -/
theorem dL_cell_0 : decode cL_cell 0 = .ok (.iload_n 1, 1) := by decide +kernel
theorem dL_cell_1 : decode cL_cell 1 = .ok (.aload_n 0, 1) := by decide +kernel
theorem dL_cell_2 : decode cL_cell 2 = .ok (.arraylength, 1) := by decide +kernel
theorem dL_cell_3 : decode cL_cell 3 = .ok (.if_icmp .ge 9, 3) := by decide +kernel
theorem dL_cell_6 : decode cL_cell 6 = .ok (.aload_n 0, 1) := by decide +kernel
theorem dL_cell_7 : decode cL_cell 7 = .ok (.iload_n 1, 1) := by decide +kernel
theorem dL_cell_8 : decode cL_cell 8 = .ok (.iaload, 1) := by decide +kernel
theorem dL_cell_9 : decode cL_cell 9 = .ok (.goto 11, 3) := by decide +kernel
theorem dL_cell_12 : decode cL_cell 12 = .ok (.sipush 7919, 3) := by decide +kernel
theorem dL_cell_15 : decode cL_cell 15 = .ok (.iload_n 1, 1) := by decide +kernel
theorem dL_cell_16 : decode cL_cell 16 = .ok (.imul, 1) := by decide +kernel
theorem dL_cell_17 : decode cL_cell 17 = .ok (.bipush 12, 2) := by decide +kernel
theorem dL_cell_19 : decode cL_cell 19 = .ok (.iadd, 1) := by decide +kernel
theorem dL_cell_20 : decode cL_cell 20 = .ok (.ireturn, 1) := by decide +kernel
set_option maxRecDepth 20000 in
theorem ggL_some_L_cell : GoodIn wsL_some wsL_cell := goodIn_ca (goodIn_r _ [4] (by decide +kernel) (by decide +kernel)) (goodIn_sub (fun _ h => List.mem_cons_of_mem _ (List.mem_append_right _ h)) (by decide +kernel))
set_option maxRecDepth 20000 in
theorem gL_some_L_cell : GoodIn wsL_some (va_wsS RL 7 yL_cell wsL_cell) := goodIn_app (goodIn_of _ (by decide +kernel)) ggL_some_L_cell
theorem dL_some_0 : decode cL_some 0 = .ok (.aload_n 0, 1) := by decide +kernel
theorem dL_some_1 : decode cL_some 1 = .ok (.iload_n 1, 1) := by decide +kernel
theorem dL_some_2 : decode cL_some 2 = .ok (.invokestatic 7, 3) := by decide +kernel
theorem dL_some_5 : decode cL_some 5 = .ok (.iconst 3, 1) := by decide +kernel
theorem dL_some_6 : decode cL_some 6 = .ok (.iushr, 1) := by decide +kernel
theorem dL_some_7 : decode cL_some 7 = .ok (.iload_n 2, 1) := by decide +kernel
theorem dL_some_8 : decode cL_some 8 = .ok (.irem, 1) := by decide +kernel
theorem dL_some_9 : decode cL_some 9 = .ok (.ireturn, 1) := by decide +kernel
set_option maxRecDepth 20000 in
theorem ggL_addTrack_X9_addTrack : GoodIn wsL_addTrack wsX9_addTrack := goodIn_ca (goodIn_ca (goodIn_r _ [7, 8, 9, 10, 11, 12, 13, 6, 14, 15, 16, 17, 18, 19, 20, 21, 22, 23, 24, 25, 26, 27, 28, 29, 30, 31, 32, 33, 34, 35, 36, 37, 38, 39, 40, 41, 42, 43, 44, 45, 46, 47, 48, 49, 50, 51, 52, 53, 54, 55, 56, 57, 58, 59, 60, 61, 62, 63, 64, 65, 66, 67, 68, 69, 70, 71, 72, 73, 74, 75, 76, 77, 78, 79, 80, 81, 82, 83, 84, 85, 86, 87, 88, 89, 90, 91, 92, 93, 94, 105, 106, 107, 108, 109, 110, 111, 112, 113, 114, 115, 116, 117, 118, 119, 120, 121, 122, 123, 124, 125, 126, 127, 128, 129, 130, 131, 132, 133, 134, 135, 136, 137, 138, 139] (by decide +kernel) (by decide +kernel)) (goodIn_sub (fun _ h => List.mem_cons_of_mem _ (List.mem_append_left _ (List.mem_append_left _ (List.mem_append_right _ h)))) (by decide +kernel))) (goodIn_sub (fun _ h => List.mem_cons_of_mem _ (List.mem_append_left _ (List.mem_append_right _ h))) (by decide +kernel))
set_option maxRecDepth 20000 in
theorem gL_addTrack_X9_addTrack : GoodIn wsL_addTrack (wsV RL 13 RX9 yX9_addTrack wsX9_addTrack) := goodIn_app (goodIn_of _ (by decide +kernel)) ggL_addTrack_X9_addTrack
set_option maxRecDepth 20000 in
theorem ggL_addTrack_X9_rejectionReason : GoodIn wsL_addTrack wsX9_rejectionReason := goodIn_ca (goodIn_r _ [98, 44, 99, 100, 101, 6, 102, 103, 104, 105, 106, 107, 108, 109, 110, 111, 112, 113, 114, 115, 116, 117] (by decide +kernel) (by decide +kernel)) (goodIn_sub (fun _ h => List.mem_cons_of_mem _ (List.mem_append_right _ h)) (by decide +kernel))
set_option maxRecDepth 20000 in
theorem gL_addTrack_X9_rejectionReason : GoodIn wsL_addTrack (wsV RL 23 RX9 yX9_rejectionReason wsX9_rejectionReason) := goodIn_app (goodIn_of _ (by decide +kernel)) ggL_addTrack_X9_rejectionReason
theorem dL_addTrack_0 : decode cL_addTrack 0 = .ok (.aload_n 0, 1) := by decide +kernel
theorem dL_addTrack_1 : decode cL_addTrack 1 = .ok (.iload_n 1, 1) := by decide +kernel
theorem dL_addTrack_2 : decode cL_addTrack 2 = .ok (.invokevirtual 13, 3) := by decide +kernel
theorem dL_addTrack_5 : decode cL_addTrack 5 = .ok (.ireturn, 1) := by decide +kernel
theorem dL_addTrack_6 : decode cL_addTrack 6 = .ok (.astore_n 2, 1) := by decide +kernel
theorem dL_addTrack_7 : decode cL_addTrack 7 = .ok (.sipush (-20000), 3) := by decide +kernel
theorem dL_addTrack_10 : decode cL_addTrack 10 = .ok (.ireturn, 1) := by decide +kernel
theorem dL_addTrack_11 : decode cL_addTrack 11 = .ok (.astore_n 2, 1) := by decide +kernel
theorem dL_addTrack_12 : decode cL_addTrack 12 = .ok (.sipush (-10000), 3) := by decide +kernel
theorem dL_addTrack_15 : decode cL_addTrack 15 = .ok (.aload_n 0, 1) := by decide +kernel
theorem dL_addTrack_16 : decode cL_addTrack 16 = .ok (.invokevirtual 23, 3) := by decide +kernel
theorem dL_addTrack_19 : decode cL_addTrack 19 = .ok (.isub, 1) := by decide +kernel
theorem dL_addTrack_20 : decode cL_addTrack 20 = .ok (.ireturn, 1) := by decide +kernel
set_option maxRecDepth 20000 in
theorem ggL_removeTrack_X9_removeTrack : GoodIn wsL_removeTrack wsX9_removeTrack := goodIn_ca (goodIn_r _ [6, 7, 8, 9, 10, 11, 5, 12, 13, 14, 15, 16, 17, 18, 19, 20, 21, 22, 23, 24, 25, 26, 27, 28, 29, 30, 31, 32, 33, 34, 35, 36, 37, 38, 39, 40, 41, 42, 43, 44, 45, 46, 47, 48, 49, 50, 51, 52, 53, 54, 55, 56, 57, 58, 59, 60, 61, 62, 63, 64, 65, 66, 67, 68, 69, 70, 71, 72, 73, 74, 75, 76, 77, 78, 79, 80, 81, 82, 83, 84, 85, 86, 87, 88, 89, 90, 91, 92, 93, 94, 95, 96, 97, 98, 99, 100, 101, 102, 103, 104, 105, 106, 107] (by decide +kernel) (by decide +kernel)) (goodIn_sub (fun _ h => List.mem_cons_of_mem _ (List.mem_append_right _ h)) (by decide +kernel))
set_option maxRecDepth 20000 in
theorem gL_removeTrack_X9_removeTrack : GoodIn wsL_removeTrack (wsV RL 27 RX9 yX9_removeTrack wsX9_removeTrack) := goodIn_app (goodIn_of _ (by decide +kernel)) ggL_removeTrack_X9_removeTrack
theorem dL_removeTrack_0 : decode cL_removeTrack 0 = .ok (.aload_n 0, 1) := by decide +kernel
theorem dL_removeTrack_1 : decode cL_removeTrack 1 = .ok (.iload_n 1, 1) := by decide +kernel
theorem dL_removeTrack_2 : decode cL_removeTrack 2 = .ok (.invokevirtual 27, 3) := by decide +kernel
theorem dL_removeTrack_5 : decode cL_removeTrack 5 = .ok (.ireturn, 1) := by decide +kernel
theorem dL_removeTrack_6 : decode cL_removeTrack 6 = .ok (.astore_n 2, 1) := by decide +kernel
theorem dL_removeTrack_7 : decode cL_removeTrack 7 = .ok (.sipush (-25000), 3) := by decide +kernel
theorem dL_removeTrack_10 : decode cL_removeTrack 10 = .ok (.ireturn, 1) := by decide +kernel
set_option maxRecDepth 20000 in
theorem ggL_addPrint_X9_addPrint : GoodIn wsL_addPrint wsX9_addPrint := goodIn_ca (goodIn_ca (goodIn_ca (goodIn_r _ [8, 9, 10, 11, 12, 13, 14, 15, 7, 16, 17, 18, 19, 20, 21, 22, 23, 24, 25, 26, 27, 28, 29, 30, 31, 32, 33, 34, 35, 36, 37, 38, 39, 40, 41, 42, 43, 44, 45, 46, 47, 48, 49, 50, 51, 52, 53, 54, 55, 56, 57, 58, 59, 60, 61, 62, 63, 64, 65, 66, 67, 68, 69, 70, 71, 72, 73, 74, 75, 76, 77, 78, 79, 80, 81, 82, 83, 84, 85, 86, 87, 88, 89, 90, 91, 92, 93, 94, 95, 96, 97, 98, 99, 100, 101, 102, 103, 104, 105, 106, 107, 108, 109, 110, 111, 112, 113, 114, 115, 116, 117, 118, 119, 120, 121, 122, 123, 124, 125, 126, 127, 128, 129, 130, 131, 132, 133, 134, 135, 136, 137, 138, 139, 140, 141, 142, 143, 144, 145, 146, 147, 148, 149, 150, 151, 152, 153, 154, 165, 166, 167, 168, 169, 170, 171, 172, 173, 174, 175, 176, 177, 178, 179, 180, 181, 182, 183, 184, 185, 186, 187, 188, 189, 190, 191, 192, 193, 194, 195, 196, 197, 198, 199] (by decide +kernel) (by decide +kernel)) (goodIn_sub (fun _ h => List.mem_cons_of_mem _ (List.mem_append_left _ (List.mem_append_left _ (List.mem_append_left _ (List.mem_append_right _ h))))) (by decide +kernel))) (goodIn_sub (fun _ h => List.mem_cons_of_mem _ (List.mem_append_left _ (List.mem_append_left _ (List.mem_append_right _ h)))) (by decide +kernel))) (goodIn_sub (fun _ h => List.mem_cons_of_mem _ (List.mem_append_left _ (List.mem_append_right _ h))) (by decide +kernel))
set_option maxRecDepth 20000 in
theorem gL_addPrint_X9_addPrint : GoodIn wsL_addPrint (wsV RL 32 RX9 yX9_addPrint wsX9_addPrint) := goodIn_app (goodIn_of _ (by decide +kernel)) ggL_addPrint_X9_addPrint
set_option maxRecDepth 20000 in
theorem ggL_addPrint_X9_rejectionReason : GoodIn wsL_addPrint wsX9_rejectionReason := goodIn_ca (goodIn_r _ [158, 102, 159, 160, 161, 7, 162, 163, 164, 165, 166, 167, 168, 169, 170, 171, 172, 173, 174, 185, 186, 187] (by decide +kernel) (by decide +kernel)) (goodIn_sub (fun _ h => List.mem_cons_of_mem _ (List.mem_append_right _ h)) (by decide +kernel))
set_option maxRecDepth 20000 in
theorem gL_addPrint_X9_rejectionReason : GoodIn wsL_addPrint (wsV RL 23 RX9 yX9_rejectionReason wsX9_rejectionReason) := goodIn_app (goodIn_of _ (by decide +kernel)) ggL_addPrint_X9_rejectionReason
theorem dL_addPrint_0 : decode cL_addPrint 0 = .ok (.aload_n 0, 1) := by decide +kernel
theorem dL_addPrint_1 : decode cL_addPrint 1 = .ok (.iload_n 1, 1) := by decide +kernel
theorem dL_addPrint_2 : decode cL_addPrint 2 = .ok (.iload_n 2, 1) := by decide +kernel
theorem dL_addPrint_3 : decode cL_addPrint 3 = .ok (.iload_n 3, 1) := by decide +kernel
theorem dL_addPrint_4 : decode cL_addPrint 4 = .ok (.iload 4, 2) := by decide +kernel
theorem dL_addPrint_6 : decode cL_addPrint 6 = .ok (.iload 5, 2) := by decide +kernel
theorem dL_addPrint_8 : decode cL_addPrint 8 = .ok (.iload 6, 2) := by decide +kernel
theorem dL_addPrint_10 : decode cL_addPrint 10 = .ok (.invokevirtual 32, 3) := by decide +kernel
theorem dL_addPrint_13 : decode cL_addPrint 13 = .ok (.ireturn, 1) := by decide +kernel
theorem dL_addPrint_14 : decode cL_addPrint 14 = .ok (.astore 7, 2) := by decide +kernel
theorem dL_addPrint_16 : decode cL_addPrint 16 = .ok (.sipush (-25000), 3) := by decide +kernel
theorem dL_addPrint_19 : decode cL_addPrint 19 = .ok (.ireturn, 1) := by decide +kernel
theorem dL_addPrint_20 : decode cL_addPrint 20 = .ok (.astore 7, 2) := by decide +kernel
theorem dL_addPrint_22 : decode cL_addPrint 22 = .ok (.sipush (-20000), 3) := by decide +kernel
theorem dL_addPrint_25 : decode cL_addPrint 25 = .ok (.ireturn, 1) := by decide +kernel
theorem dL_addPrint_26 : decode cL_addPrint 26 = .ok (.astore 7, 2) := by decide +kernel
theorem dL_addPrint_28 : decode cL_addPrint 28 = .ok (.sipush (-10000), 3) := by decide +kernel
theorem dL_addPrint_31 : decode cL_addPrint 31 = .ok (.aload_n 0, 1) := by decide +kernel
theorem dL_addPrint_32 : decode cL_addPrint 32 = .ok (.invokevirtual 23, 3) := by decide +kernel
theorem dL_addPrint_35 : decode cL_addPrint 35 = .ok (.isub, 1) := by decide +kernel
theorem dL_addPrint_36 : decode cL_addPrint 36 = .ok (.ireturn, 1) := by decide +kernel
set_option maxRecDepth 20000 in
theorem ggL_removePrint_X9_removePrint : GoodIn wsL_removePrint wsX9_removePrint := goodIn_ca (goodIn_r _ [6, 7, 8, 9, 10, 11, 12, 5, 13, 14, 15, 16, 17, 18, 19, 20, 21, 22, 23, 24, 25, 26, 27, 28, 29, 30, 31, 32, 33, 34, 35, 36, 37, 38, 39, 40, 41, 42, 43, 44, 45, 46, 47, 48, 49, 50, 51, 52, 53, 54, 55, 56, 57, 58, 59, 60, 61, 62, 63, 64, 65, 66, 67, 68, 69, 70, 71, 72, 73, 74, 75, 76, 77, 78, 79, 80, 81, 82, 83, 84, 85, 86, 87, 88, 89, 90, 91, 92, 93, 94, 95, 96, 97, 98, 99, 100, 101, 102, 103] (by decide +kernel) (by decide +kernel)) (goodIn_sub (fun _ h => List.mem_cons_of_mem _ (List.mem_append_right _ h)) (by decide +kernel))
set_option maxRecDepth 20000 in
theorem gL_removePrint_X9_removePrint : GoodIn wsL_removePrint (wsV RL 36 RX9 yX9_removePrint wsX9_removePrint) := goodIn_app (goodIn_of _ (by decide +kernel)) ggL_removePrint_X9_removePrint
theorem dL_removePrint_0 : decode cL_removePrint 0 = .ok (.aload_n 0, 1) := by decide +kernel
theorem dL_removePrint_1 : decode cL_removePrint 1 = .ok (.iload_n 1, 1) := by decide +kernel
theorem dL_removePrint_2 : decode cL_removePrint 2 = .ok (.invokevirtual 36, 3) := by decide +kernel
theorem dL_removePrint_5 : decode cL_removePrint 5 = .ok (.ireturn, 1) := by decide +kernel
theorem dL_removePrint_6 : decode cL_removePrint 6 = .ok (.astore_n 2, 1) := by decide +kernel
theorem dL_removePrint_7 : decode cL_removePrint 7 = .ok (.sipush (-25000), 3) := by decide +kernel
theorem dL_removePrint_10 : decode cL_removePrint 10 = .ok (.ireturn, 1) := by decide +kernel
set_option maxRecDepth 20000 in
theorem ggL_correctHeel_X9_correctHeel : GoodIn wsL_correctHeel wsX9_correctHeel := goodIn_ca (goodIn_ca (goodIn_r _ [7, 8, 9, 10, 11, 12, 6, 13, 14, 15, 16, 17, 18, 19, 20, 21, 22, 23, 24, 25, 26, 27, 28, 29, 30, 31, 32, 33, 34, 35, 36, 37, 38, 39, 40, 41, 42, 43, 44, 45, 46, 47, 48, 49, 50, 51, 52, 53, 54, 55, 56, 57, 58, 59, 60, 61, 62, 63, 64, 65, 66, 67, 68, 69, 70, 71, 72, 73, 74, 75, 76, 77, 78, 79, 80, 81, 82, 83, 84, 85, 86, 87, 88, 89, 90, 91, 92, 93, 94, 95, 96, 97, 98, 99, 100, 101, 102, 103, 104, 105, 106, 107, 108, 109, 110, 111, 112, 113, 114, 115, 116, 117, 118, 119, 120, 121, 122, 123, 124, 135, 136, 137, 138, 139, 140, 141, 142, 143, 144, 145, 146, 147, 148, 149, 150, 151, 152, 153, 154, 155, 156, 157, 158, 159, 160, 161, 162, 163, 164, 165, 166, 167, 168, 169] (by decide +kernel) (by decide +kernel)) (goodIn_sub (fun _ h => List.mem_cons_of_mem _ (List.mem_append_left _ (List.mem_append_left _ (List.mem_append_right _ h)))) (by decide +kernel))) (goodIn_sub (fun _ h => List.mem_cons_of_mem _ (List.mem_append_left _ (List.mem_append_right _ h))) (by decide +kernel))
set_option maxRecDepth 20000 in
theorem gL_correctHeel_X9_correctHeel : GoodIn wsL_correctHeel (wsV RL 39 RX9 yX9_correctHeel wsX9_correctHeel) := goodIn_app (goodIn_of _ (by decide +kernel)) ggL_correctHeel_X9_correctHeel
set_option maxRecDepth 20000 in
theorem ggL_correctHeel_X9_rejectionReason : GoodIn wsL_correctHeel wsX9_rejectionReason := goodIn_ca (goodIn_r _ [128, 81, 129, 130, 131, 6, 132, 133, 134, 135, 136, 137, 138, 139, 140, 141, 142, 143, 144, 162, 163, 164] (by decide +kernel) (by decide +kernel)) (goodIn_sub (fun _ h => List.mem_cons_of_mem _ (List.mem_append_right _ h)) (by decide +kernel))
set_option maxRecDepth 20000 in
theorem gL_correctHeel_X9_rejectionReason : GoodIn wsL_correctHeel (wsV RL 23 RX9 yX9_rejectionReason wsX9_rejectionReason) := goodIn_app (goodIn_of _ (by decide +kernel)) ggL_correctHeel_X9_rejectionReason
theorem dL_correctHeel_0 : decode cL_correctHeel 0 = .ok (.aload_n 0, 1) := by decide +kernel
theorem dL_correctHeel_1 : decode cL_correctHeel 1 = .ok (.iload_n 1, 1) := by decide +kernel
theorem dL_correctHeel_2 : decode cL_correctHeel 2 = .ok (.iload_n 2, 1) := by decide +kernel
theorem dL_correctHeel_3 : decode cL_correctHeel 3 = .ok (.iload_n 3, 1) := by decide +kernel
theorem dL_correctHeel_4 : decode cL_correctHeel 4 = .ok (.invokevirtual 39, 3) := by decide +kernel
theorem dL_correctHeel_7 : decode cL_correctHeel 7 = .ok (.ireturn, 1) := by decide +kernel
theorem dL_correctHeel_8 : decode cL_correctHeel 8 = .ok (.astore 4, 2) := by decide +kernel
theorem dL_correctHeel_10 : decode cL_correctHeel 10 = .ok (.sipush (-25000), 3) := by decide +kernel
theorem dL_correctHeel_13 : decode cL_correctHeel 13 = .ok (.ireturn, 1) := by decide +kernel
theorem dL_correctHeel_14 : decode cL_correctHeel 14 = .ok (.astore 4, 2) := by decide +kernel
theorem dL_correctHeel_16 : decode cL_correctHeel 16 = .ok (.sipush (-10000), 3) := by decide +kernel
theorem dL_correctHeel_19 : decode cL_correctHeel 19 = .ok (.aload_n 0, 1) := by decide +kernel
theorem dL_correctHeel_20 : decode cL_correctHeel 20 = .ok (.invokevirtual 23, 3) := by decide +kernel
theorem dL_correctHeel_23 : decode cL_correctHeel 23 = .ok (.isub, 1) := by decide +kernel
theorem dL_correctHeel_24 : decode cL_correctHeel 24 = .ok (.ireturn, 1) := by decide +kernel
set_option maxRecDepth 20000 in
theorem ggL_doubtToes_X9_doubtToes : GoodIn wsL_doubtToes wsX9_doubtToes := goodIn_ca (goodIn_ca (goodIn_r _ [7, 8, 9, 10, 11, 12, 6, 13, 14, 15, 16, 17, 18, 19, 20, 21, 22, 23, 24, 25, 26, 27, 28, 29, 30, 31, 32, 33, 34, 35, 36, 37, 38, 39, 40, 41, 42, 43, 44, 45, 46, 47, 48, 49, 50, 51, 52, 53, 54, 55, 56, 57, 58, 59, 60, 61, 62, 63, 64, 65, 66, 67, 68, 69, 70, 71, 72, 73, 74, 75, 76, 77, 78, 79, 80, 81, 82, 83, 84, 85, 86, 87, 88, 89, 90, 91, 92, 93, 94, 95, 106, 107, 108, 109, 110, 111, 112, 113, 114, 115, 116, 117, 118, 119, 120, 121, 122, 123, 124, 125, 126, 127, 128, 129, 130, 131, 132, 133, 134, 135, 136, 137, 138, 139, 140] (by decide +kernel) (by decide +kernel)) (goodIn_sub (fun _ h => List.mem_cons_of_mem _ (List.mem_append_left _ (List.mem_append_left _ (List.mem_append_right _ h)))) (by decide +kernel))) (goodIn_sub (fun _ h => List.mem_cons_of_mem _ (List.mem_append_left _ (List.mem_append_right _ h))) (by decide +kernel))
set_option maxRecDepth 20000 in
theorem gL_doubtToes_X9_doubtToes : GoodIn wsL_doubtToes (wsV RL 43 RX9 yX9_doubtToes wsX9_doubtToes) := goodIn_app (goodIn_of _ (by decide +kernel)) ggL_doubtToes_X9_doubtToes
set_option maxRecDepth 20000 in
theorem ggL_doubtToes_X9_rejectionReason : GoodIn wsL_doubtToes wsX9_rejectionReason := goodIn_ca (goodIn_r _ [99, 47, 100, 101, 102, 6, 103, 104, 105, 106, 107, 108, 109, 110, 111, 112, 113, 114, 115, 133, 134, 135] (by decide +kernel) (by decide +kernel)) (goodIn_sub (fun _ h => List.mem_cons_of_mem _ (List.mem_append_right _ h)) (by decide +kernel))
set_option maxRecDepth 20000 in
theorem gL_doubtToes_X9_rejectionReason : GoodIn wsL_doubtToes (wsV RL 23 RX9 yX9_rejectionReason wsX9_rejectionReason) := goodIn_app (goodIn_of _ (by decide +kernel)) ggL_doubtToes_X9_rejectionReason
theorem dL_doubtToes_0 : decode cL_doubtToes 0 = .ok (.aload_n 0, 1) := by decide +kernel
theorem dL_doubtToes_1 : decode cL_doubtToes 1 = .ok (.iload_n 1, 1) := by decide +kernel
theorem dL_doubtToes_2 : decode cL_doubtToes 2 = .ok (.invokevirtual 43, 3) := by decide +kernel
theorem dL_doubtToes_5 : decode cL_doubtToes 5 = .ok (.ireturn, 1) := by decide +kernel
theorem dL_doubtToes_6 : decode cL_doubtToes 6 = .ok (.astore_n 2, 1) := by decide +kernel
theorem dL_doubtToes_7 : decode cL_doubtToes 7 = .ok (.sipush (-25000), 3) := by decide +kernel
theorem dL_doubtToes_10 : decode cL_doubtToes 10 = .ok (.ireturn, 1) := by decide +kernel
theorem dL_doubtToes_11 : decode cL_doubtToes 11 = .ok (.astore_n 2, 1) := by decide +kernel
theorem dL_doubtToes_12 : decode cL_doubtToes 12 = .ok (.sipush (-10000), 3) := by decide +kernel
theorem dL_doubtToes_15 : decode cL_doubtToes 15 = .ok (.aload_n 0, 1) := by decide +kernel
theorem dL_doubtToes_16 : decode cL_doubtToes 16 = .ok (.invokevirtual 23, 3) := by decide +kernel
theorem dL_doubtToes_19 : decode cL_doubtToes 19 = .ok (.isub, 1) := by decide +kernel
theorem dL_doubtToes_20 : decode cL_doubtToes 20 = .ok (.ireturn, 1) := by decide +kernel
set_option maxRecDepth 20000 in
theorem ggL_confirmToes_X9_confirmToes : GoodIn wsL_confirmToes wsX9_confirmToes := goodIn_ca (goodIn_ca (goodIn_r _ [7, 8, 9, 10, 11, 12, 6, 13, 14, 15, 16, 17, 18, 19, 20, 21, 22, 23, 24, 25, 26, 27, 28, 29, 30, 31, 32, 33, 34, 35, 36, 37, 38, 39, 40, 41, 42, 43, 44, 45, 46, 47, 48, 49, 50, 51, 52, 53, 54, 55, 56, 57, 58, 59, 60, 61, 62, 63, 64, 65, 66, 67, 68, 69, 70, 71, 72, 73, 74, 75, 76, 77, 78, 79, 80, 81, 82, 83, 84, 85, 86, 87, 88, 89, 90, 91, 92, 93, 94, 95, 106, 107, 108, 109, 110, 111, 112, 113, 114, 115, 116, 117, 118, 119, 120, 121, 122, 123, 124, 125, 126, 127, 128, 129, 130, 131, 132, 133, 134, 135, 136, 137, 138, 139, 140] (by decide +kernel) (by decide +kernel)) (goodIn_sub (fun _ h => List.mem_cons_of_mem _ (List.mem_append_left _ (List.mem_append_left _ (List.mem_append_right _ h)))) (by decide +kernel))) (goodIn_sub (fun _ h => List.mem_cons_of_mem _ (List.mem_append_left _ (List.mem_append_right _ h))) (by decide +kernel))
set_option maxRecDepth 20000 in
theorem gL_confirmToes_X9_confirmToes : GoodIn wsL_confirmToes (wsV RL 46 RX9 yX9_confirmToes wsX9_confirmToes) := goodIn_app (goodIn_of _ (by decide +kernel)) ggL_confirmToes_X9_confirmToes
set_option maxRecDepth 20000 in
theorem ggL_confirmToes_X9_rejectionReason : GoodIn wsL_confirmToes wsX9_rejectionReason := goodIn_ca (goodIn_r _ [99, 47, 100, 101, 102, 6, 103, 104, 105, 106, 107, 108, 109, 110, 111, 112, 113, 114, 115, 133, 134, 135] (by decide +kernel) (by decide +kernel)) (goodIn_sub (fun _ h => List.mem_cons_of_mem _ (List.mem_append_right _ h)) (by decide +kernel))
set_option maxRecDepth 20000 in
theorem gL_confirmToes_X9_rejectionReason : GoodIn wsL_confirmToes (wsV RL 23 RX9 yX9_rejectionReason wsX9_rejectionReason) := goodIn_app (goodIn_of _ (by decide +kernel)) ggL_confirmToes_X9_rejectionReason
theorem dL_confirmToes_0 : decode cL_confirmToes 0 = .ok (.aload_n 0, 1) := by decide +kernel
theorem dL_confirmToes_1 : decode cL_confirmToes 1 = .ok (.iload_n 1, 1) := by decide +kernel
theorem dL_confirmToes_2 : decode cL_confirmToes 2 = .ok (.invokevirtual 46, 3) := by decide +kernel
theorem dL_confirmToes_5 : decode cL_confirmToes 5 = .ok (.ireturn, 1) := by decide +kernel
theorem dL_confirmToes_6 : decode cL_confirmToes 6 = .ok (.astore_n 2, 1) := by decide +kernel
theorem dL_confirmToes_7 : decode cL_confirmToes 7 = .ok (.sipush (-25000), 3) := by decide +kernel
theorem dL_confirmToes_10 : decode cL_confirmToes 10 = .ok (.ireturn, 1) := by decide +kernel
theorem dL_confirmToes_11 : decode cL_confirmToes 11 = .ok (.astore_n 2, 1) := by decide +kernel
theorem dL_confirmToes_12 : decode cL_confirmToes 12 = .ok (.sipush (-10000), 3) := by decide +kernel
theorem dL_confirmToes_15 : decode cL_confirmToes 15 = .ok (.aload_n 0, 1) := by decide +kernel
theorem dL_confirmToes_16 : decode cL_confirmToes 16 = .ok (.invokevirtual 23, 3) := by decide +kernel
theorem dL_confirmToes_19 : decode cL_confirmToes 19 = .ok (.isub, 1) := by decide +kernel
theorem dL_confirmToes_20 : decode cL_confirmToes 20 = .ok (.ireturn, 1) := by decide +kernel
set_option maxRecDepth 20000 in
theorem ggL_setTide_X9_setTide : GoodIn wsL_setTide wsX9_setTide := goodIn_ca (goodIn_ca (goodIn_r _ [7, 8, 9, 10, 11, 6, 12, 13, 14, 15, 16, 17, 18, 19, 20, 21, 22, 23, 24, 25, 26, 27, 28, 29, 30, 31, 32, 33, 34, 35, 36, 37, 38, 39, 40, 41, 42, 43, 44, 45, 46, 47, 48, 49, 50, 51, 52, 53, 54, 55, 56, 57, 58, 59, 60, 61, 62, 63, 64, 65, 66, 67, 68, 69, 70, 71, 72, 73, 74, 75, 76, 77, 78, 79, 80, 81, 82, 83, 84, 85, 86, 87, 88, 89, 90, 91, 92, 93, 94, 95, 96, 107, 108, 109, 110, 111, 112, 113, 114, 115, 116, 117, 118, 119, 120, 121, 122, 123, 124, 125, 126, 127, 128, 129, 130, 131, 132, 133, 134, 135, 136, 137, 138, 139, 140, 141] (by decide +kernel) (by decide +kernel)) (goodIn_sub (fun _ h => List.mem_cons_of_mem _ (List.mem_append_left _ (List.mem_append_left _ (List.mem_append_right _ h)))) (by decide +kernel))) (goodIn_sub (fun _ h => List.mem_cons_of_mem _ (List.mem_append_left _ (List.mem_append_right _ h))) (by decide +kernel))
set_option maxRecDepth 20000 in
theorem gL_setTide_X9_setTide : GoodIn wsL_setTide (wsV RL 49 RX9 yX9_setTide wsX9_setTide) := goodIn_app (goodIn_of _ (by decide +kernel)) ggL_setTide_X9_setTide
set_option maxRecDepth 20000 in
theorem ggL_setTide_X9_rejectionReason : GoodIn wsL_setTide wsX9_rejectionReason := goodIn_ca (goodIn_r _ [100, 42, 101, 102, 103, 6, 104, 105, 106, 107, 108, 109, 110, 111, 112, 113, 114, 115, 116, 124, 125, 126] (by decide +kernel) (by decide +kernel)) (goodIn_sub (fun _ h => List.mem_cons_of_mem _ (List.mem_append_right _ h)) (by decide +kernel))
set_option maxRecDepth 20000 in
theorem gL_setTide_X9_rejectionReason : GoodIn wsL_setTide (wsV RL 23 RX9 yX9_rejectionReason wsX9_rejectionReason) := goodIn_app (goodIn_of _ (by decide +kernel)) ggL_setTide_X9_rejectionReason
theorem dL_setTide_0 : decode cL_setTide 0 = .ok (.aload_n 0, 1) := by decide +kernel
theorem dL_setTide_1 : decode cL_setTide 1 = .ok (.iload_n 1, 1) := by decide +kernel
theorem dL_setTide_2 : decode cL_setTide 2 = .ok (.invokevirtual 49, 3) := by decide +kernel
theorem dL_setTide_5 : decode cL_setTide 5 = .ok (.ireturn, 1) := by decide +kernel
theorem dL_setTide_6 : decode cL_setTide 6 = .ok (.astore_n 2, 1) := by decide +kernel
theorem dL_setTide_7 : decode cL_setTide 7 = .ok (.sipush (-20000), 3) := by decide +kernel
theorem dL_setTide_10 : decode cL_setTide 10 = .ok (.ireturn, 1) := by decide +kernel
theorem dL_setTide_11 : decode cL_setTide 11 = .ok (.astore_n 2, 1) := by decide +kernel
theorem dL_setTide_12 : decode cL_setTide 12 = .ok (.sipush (-10000), 3) := by decide +kernel
theorem dL_setTide_15 : decode cL_setTide 15 = .ok (.aload_n 0, 1) := by decide +kernel
theorem dL_setTide_16 : decode cL_setTide 16 = .ok (.invokevirtual 23, 3) := by decide +kernel
theorem dL_setTide_19 : decode cL_setTide 19 = .ok (.isub, 1) := by decide +kernel
theorem dL_setTide_20 : decode cL_setTide 20 = .ok (.ireturn, 1) := by decide +kernel
set_option maxRecDepth 20000 in
theorem ggL_previousPrint_X9_previousPrint : GoodIn wsL_previousPrint wsX9_previousPrint := goodIn_ca (goodIn_ca (goodIn_r _ [7, 8, 9, 10, 11, 12, 6, 13, 14, 15, 16, 17, 18, 19, 20, 21, 22, 23, 24, 25, 26, 27, 28, 29, 30, 31, 32, 33, 34, 35, 36, 37, 38, 39, 40, 41, 42, 43, 44, 45, 46, 47, 48, 49, 50, 51, 52, 53, 54, 55, 56, 57, 58, 59, 60, 61, 62, 63, 64, 65, 66, 67, 68] (by decide +kernel) (by decide +kernel)) (goodIn_sub (fun _ h => List.mem_cons_of_mem _ (List.mem_append_left _ (List.mem_append_right _ h))) (by decide +kernel))) (goodIn_sub (fun _ h => List.mem_cons_of_mem _ (List.mem_append_right _ h)) (by decide +kernel))
set_option maxRecDepth 20000 in
theorem gL_previousPrint_X9_previousPrint : GoodIn wsL_previousPrint (wsV RL 52 RX9 yX9_previousPrint wsX9_previousPrint) := goodIn_app (goodIn_of _ (by decide +kernel)) ggL_previousPrint_X9_previousPrint
theorem dL_previousPrint_0 : decode cL_previousPrint 0 = .ok (.aload_n 0, 1) := by decide +kernel
theorem dL_previousPrint_1 : decode cL_previousPrint 1 = .ok (.iload_n 1, 1) := by decide +kernel
theorem dL_previousPrint_2 : decode cL_previousPrint 2 = .ok (.invokevirtual 52, 3) := by decide +kernel
theorem dL_previousPrint_5 : decode cL_previousPrint 5 = .ok (.ireturn, 1) := by decide +kernel
theorem dL_previousPrint_6 : decode cL_previousPrint 6 = .ok (.astore_n 2, 1) := by decide +kernel
theorem dL_previousPrint_7 : decode cL_previousPrint 7 = .ok (.sipush (-25000), 3) := by decide +kernel
theorem dL_previousPrint_10 : decode cL_previousPrint 10 = .ok (.ireturn, 1) := by decide +kernel
theorem dL_previousPrint_11 : decode cL_previousPrint 11 = .ok (.astore_n 2, 1) := by decide +kernel
theorem dL_previousPrint_12 : decode cL_previousPrint 12 = .ok (.sipush (-30000), 3) := by decide +kernel
theorem dL_previousPrint_15 : decode cL_previousPrint 15 = .ok (.ireturn, 1) := by decide +kernel
set_option maxRecDepth 20000 in
theorem ggL_nextPrint_X9_nextPrint : GoodIn wsL_nextPrint wsX9_nextPrint := goodIn_ca (goodIn_ca (goodIn_r _ [7, 8, 9, 10, 11, 12, 6, 13, 14, 15, 16, 17, 18, 19, 20, 21, 22, 23, 24, 25, 26, 27, 28, 29, 30, 31, 32, 33, 34, 35, 36, 37, 38, 39, 40, 41, 42, 43, 44, 45, 46, 47, 48, 49, 50, 51, 52, 53, 54, 55, 56, 57, 58, 59, 60, 61, 62, 63, 64, 65, 66, 67, 68] (by decide +kernel) (by decide +kernel)) (goodIn_sub (fun _ h => List.mem_cons_of_mem _ (List.mem_append_left _ (List.mem_append_right _ h))) (by decide +kernel))) (goodIn_sub (fun _ h => List.mem_cons_of_mem _ (List.mem_append_right _ h)) (by decide +kernel))
set_option maxRecDepth 20000 in
theorem gL_nextPrint_X9_nextPrint : GoodIn wsL_nextPrint (wsV RL 57 RX9 yX9_nextPrint wsX9_nextPrint) := goodIn_app (goodIn_of _ (by decide +kernel)) ggL_nextPrint_X9_nextPrint
theorem dL_nextPrint_0 : decode cL_nextPrint 0 = .ok (.aload_n 0, 1) := by decide +kernel
theorem dL_nextPrint_1 : decode cL_nextPrint 1 = .ok (.iload_n 1, 1) := by decide +kernel
theorem dL_nextPrint_2 : decode cL_nextPrint 2 = .ok (.invokevirtual 57, 3) := by decide +kernel
theorem dL_nextPrint_5 : decode cL_nextPrint 5 = .ok (.ireturn, 1) := by decide +kernel
theorem dL_nextPrint_6 : decode cL_nextPrint 6 = .ok (.astore_n 2, 1) := by decide +kernel
theorem dL_nextPrint_7 : decode cL_nextPrint 7 = .ok (.sipush (-25000), 3) := by decide +kernel
theorem dL_nextPrint_10 : decode cL_nextPrint 10 = .ok (.ireturn, 1) := by decide +kernel
theorem dL_nextPrint_11 : decode cL_nextPrint 11 = .ok (.astore_n 2, 1) := by decide +kernel
theorem dL_nextPrint_12 : decode cL_nextPrint 12 = .ok (.sipush (-30000), 3) := by decide +kernel
theorem dL_nextPrint_15 : decode cL_nextPrint 15 = .ok (.ireturn, 1) := by decide +kernel
set_option maxRecDepth 20000 in
theorem ggL_strideOf_X9_strideOf : GoodIn wsL_strideOf wsX9_strideOf := goodIn_ca (goodIn_ca (goodIn_r _ [7, 8, 9, 10, 11, 12, 13, 6, 14, 15, 16, 17, 18, 19, 20, 21, 22, 23, 24, 25, 26, 27, 28, 29, 30, 31, 32, 33, 34, 35, 36, 37, 38, 39, 40, 41, 42, 43, 44, 45, 46, 47, 48, 49, 50, 51, 52, 53, 54, 55, 56, 57, 58, 59, 60, 61, 62, 63, 64, 65, 66, 67, 68, 69, 70, 71, 72, 73, 74, 75, 76, 77, 78, 79] (by decide +kernel) (by decide +kernel)) (goodIn_sub (fun _ h => List.mem_cons_of_mem _ (List.mem_append_left _ (List.mem_append_right _ h))) (by decide +kernel))) (goodIn_sub (fun _ h => List.mem_cons_of_mem _ (List.mem_append_right _ h)) (by decide +kernel))
set_option maxRecDepth 20000 in
theorem gL_strideOf_X9_strideOf : GoodIn wsL_strideOf (wsV RL 60 RX9 yX9_strideOf wsX9_strideOf) := goodIn_app (goodIn_of _ (by decide +kernel)) ggL_strideOf_X9_strideOf
theorem dL_strideOf_0 : decode cL_strideOf 0 = .ok (.aload_n 0, 1) := by decide +kernel
theorem dL_strideOf_1 : decode cL_strideOf 1 = .ok (.iload_n 1, 1) := by decide +kernel
theorem dL_strideOf_2 : decode cL_strideOf 2 = .ok (.invokevirtual 60, 3) := by decide +kernel
theorem dL_strideOf_5 : decode cL_strideOf 5 = .ok (.ireturn, 1) := by decide +kernel
theorem dL_strideOf_6 : decode cL_strideOf 6 = .ok (.astore_n 2, 1) := by decide +kernel
theorem dL_strideOf_7 : decode cL_strideOf 7 = .ok (.sipush (-25000), 3) := by decide +kernel
theorem dL_strideOf_10 : decode cL_strideOf 10 = .ok (.ireturn, 1) := by decide +kernel
theorem dL_strideOf_11 : decode cL_strideOf 11 = .ok (.astore_n 2, 1) := by decide +kernel
theorem dL_strideOf_12 : decode cL_strideOf 12 = .ok (.sipush (-30000), 3) := by decide +kernel
theorem dL_strideOf_15 : decode cL_strideOf 15 = .ok (.ireturn, 1) := by decide +kernel
set_option maxRecDepth 20000 in
theorem ggL_printAt_X9_printAt : GoodIn wsL_printAt wsX9_printAt := goodIn_ca (goodIn_ca (goodIn_r _ [7, 8, 9, 10, 11, 12, 6, 13, 14, 15, 16, 17, 18, 19, 20, 21, 22, 23, 24, 25, 26, 27, 28, 29, 30, 31, 32, 33, 34, 35, 36, 37, 38, 39, 40, 41, 42, 43, 44, 45, 46, 47, 48, 49, 50, 51, 52, 53, 54, 55, 56, 57, 58, 59, 60, 61, 62, 63, 64, 65, 66, 67, 68, 69, 70, 71, 72, 73, 74, 75] (by decide +kernel) (by decide +kernel)) (goodIn_sub (fun _ h => List.mem_cons_of_mem _ (List.mem_append_left _ (List.mem_append_right _ h))) (by decide +kernel))) (goodIn_sub (fun _ h => List.mem_cons_of_mem _ (List.mem_append_right _ h)) (by decide +kernel))
set_option maxRecDepth 20000 in
theorem gL_printAt_X9_printAt : GoodIn wsL_printAt (wsV RL 63 RX9 yX9_printAt wsX9_printAt) := goodIn_app (goodIn_of _ (by decide +kernel)) ggL_printAt_X9_printAt
theorem dL_printAt_0 : decode cL_printAt 0 = .ok (.aload_n 0, 1) := by decide +kernel
theorem dL_printAt_1 : decode cL_printAt 1 = .ok (.iload_n 1, 1) := by decide +kernel
theorem dL_printAt_2 : decode cL_printAt 2 = .ok (.iload_n 2, 1) := by decide +kernel
theorem dL_printAt_3 : decode cL_printAt 3 = .ok (.invokevirtual 63, 3) := by decide +kernel
theorem dL_printAt_6 : decode cL_printAt 6 = .ok (.ireturn, 1) := by decide +kernel
theorem dL_printAt_7 : decode cL_printAt 7 = .ok (.astore_n 3, 1) := by decide +kernel
theorem dL_printAt_8 : decode cL_printAt 8 = .ok (.sipush (-25000), 3) := by decide +kernel
theorem dL_printAt_11 : decode cL_printAt 11 = .ok (.ireturn, 1) := by decide +kernel
theorem dL_printAt_12 : decode cL_printAt 12 = .ok (.astore_n 3, 1) := by decide +kernel
theorem dL_printAt_13 : decode cL_printAt 13 = .ok (.sipush (-30000), 3) := by decide +kernel
theorem dL_printAt_16 : decode cL_printAt 16 = .ok (.ireturn, 1) := by decide +kernel
set_option maxRecDepth 20000 in
theorem ggL_duration_X9_duration : GoodIn wsL_duration wsX9_duration := goodIn_ca (goodIn_ca (goodIn_r _ [7, 8, 9, 10, 11, 12, 6, 13, 14, 15, 16, 17, 18, 19, 20, 21, 22, 23, 24, 25, 26, 27, 28, 29, 30, 31, 32, 33, 34, 35, 36, 37, 38, 39, 40, 41, 42, 43, 44, 45, 46, 47, 48, 49, 50, 51, 52, 53, 54, 55, 56, 57, 58, 59, 60, 61, 62, 63, 64, 65, 66, 67, 68, 69, 70, 71, 72, 73, 74, 75, 76, 77, 78, 79] (by decide +kernel) (by decide +kernel)) (goodIn_sub (fun _ h => List.mem_cons_of_mem _ (List.mem_append_left _ (List.mem_append_right _ h))) (by decide +kernel))) (goodIn_sub (fun _ h => List.mem_cons_of_mem _ (List.mem_append_right _ h)) (by decide +kernel))
set_option maxRecDepth 20000 in
theorem gL_duration_X9_duration : GoodIn wsL_duration (wsV RL 67 RX9 yX9_duration wsX9_duration) := goodIn_app (goodIn_of _ (by decide +kernel)) ggL_duration_X9_duration
theorem dL_duration_0 : decode cL_duration 0 = .ok (.aload_n 0, 1) := by decide +kernel
theorem dL_duration_1 : decode cL_duration 1 = .ok (.iload_n 1, 1) := by decide +kernel
theorem dL_duration_2 : decode cL_duration 2 = .ok (.invokevirtual 67, 3) := by decide +kernel
theorem dL_duration_5 : decode cL_duration 5 = .ok (.ireturn, 1) := by decide +kernel
theorem dL_duration_6 : decode cL_duration 6 = .ok (.astore_n 2, 1) := by decide +kernel
theorem dL_duration_7 : decode cL_duration 7 = .ok (.sipush (-25000), 3) := by decide +kernel
theorem dL_duration_10 : decode cL_duration 10 = .ok (.ireturn, 1) := by decide +kernel
theorem dL_duration_11 : decode cL_duration 11 = .ok (.astore_n 2, 1) := by decide +kernel
theorem dL_duration_12 : decode cL_duration 12 = .ok (.sipush (-30000), 3) := by decide +kernel
theorem dL_duration_15 : decode cL_duration 15 = .ok (.ireturn, 1) := by decide +kernel
set_option maxRecDepth 20000 in
theorem ggL_trackByErrors_X9_trackByErrors : GoodIn wsL_trackByErrors wsX9_trackByErrors := goodIn_ca (goodIn_r _ [6, 7, 8, 9, 10, 11, 12, 13, 14, 15, 16, 17, 18, 19, 20, 21, 22, 23, 24, 25, 26, 27, 28, 29, 30, 31, 32, 33, 34, 35, 36, 37, 38, 39, 40, 41, 42, 43, 44, 45, 46, 47, 48, 49, 50, 51, 52, 53, 54, 55, 56, 57, 58, 59, 60, 61, 62, 63, 64, 65, 66, 67, 68, 69, 70, 71, 72, 73, 74, 75, 76, 77, 78, 79, 80, 81, 82, 83, 84, 85, 86, 87, 88, 89, 90, 91, 92, 93, 94, 95, 96, 97, 98, 99, 100, 101, 102, 103, 104, 105, 106, 107, 108, 109, 110, 111, 112, 113, 114, 115, 116, 117, 118] (by decide +kernel) (by decide +kernel)) (goodIn_sub (fun _ h => List.mem_cons_of_mem _ (List.mem_append_right _ h)) (by decide +kernel))
set_option maxRecDepth 20000 in
theorem gL_trackByErrors_X9_trackByErrors : GoodIn wsL_trackByErrors (wsV RL 70 RX9 yX9_trackByErrors wsX9_trackByErrors) := goodIn_app (goodIn_of _ (by decide +kernel)) ggL_trackByErrors_X9_trackByErrors
theorem dL_trackByErrors_0 : decode cL_trackByErrors 0 = .ok (.aload_n 0, 1) := by decide +kernel
theorem dL_trackByErrors_1 : decode cL_trackByErrors 1 = .ok (.iload_n 1, 1) := by decide +kernel
theorem dL_trackByErrors_2 : decode cL_trackByErrors 2 = .ok (.invokevirtual 70, 3) := by decide +kernel
theorem dL_trackByErrors_5 : decode cL_trackByErrors 5 = .ok (.ireturn, 1) := by decide +kernel
theorem dL_trackByErrors_6 : decode cL_trackByErrors 6 = .ok (.astore_n 2, 1) := by decide +kernel
theorem dL_trackByErrors_7 : decode cL_trackByErrors 7 = .ok (.sipush (-30000), 3) := by decide +kernel
theorem dL_trackByErrors_10 : decode cL_trackByErrors 10 = .ok (.ireturn, 1) := by decide +kernel
set_option maxRecDepth 20000 in
theorem ggL_printByDoubts_X9_printByDoubts : GoodIn wsL_printByDoubts wsX9_printByDoubts := goodIn_ca (goodIn_r _ [6, 7, 8, 9, 10, 11, 12, 13, 14, 15, 16, 17, 18, 19, 20, 21, 22, 23, 24, 25, 26, 27, 28, 29, 30, 31, 32, 33, 34, 35, 36, 37, 38, 39, 40, 41, 42, 43, 44, 45, 46, 47, 48, 49] (by decide +kernel) (by decide +kernel)) (goodIn_sub (fun _ h => List.mem_cons_of_mem _ (List.mem_append_right _ h)) (by decide +kernel))
set_option maxRecDepth 20000 in
theorem gL_printByDoubts_X9_printByDoubts : GoodIn wsL_printByDoubts (wsV RL 73 RX9 yX9_printByDoubts wsX9_printByDoubts) := goodIn_app (goodIn_of _ (by decide +kernel)) ggL_printByDoubts_X9_printByDoubts
theorem dL_printByDoubts_0 : decode cL_printByDoubts 0 = .ok (.aload_n 0, 1) := by decide +kernel
theorem dL_printByDoubts_1 : decode cL_printByDoubts 1 = .ok (.iload_n 1, 1) := by decide +kernel
theorem dL_printByDoubts_2 : decode cL_printByDoubts 2 = .ok (.invokevirtual 73, 3) := by decide +kernel
theorem dL_printByDoubts_5 : decode cL_printByDoubts 5 = .ok (.ireturn, 1) := by decide +kernel
theorem dL_printByDoubts_6 : decode cL_printByDoubts 6 = .ok (.astore_n 2, 1) := by decide +kernel
theorem dL_printByDoubts_7 : decode cL_printByDoubts 7 = .ok (.sipush (-30000), 3) := by decide +kernel
theorem dL_printByDoubts_10 : decode cL_printByDoubts 10 = .ok (.ireturn, 1) := by decide +kernel
set_option maxRecDepth 20000 in
theorem ggL_printIn_X9_printIn : GoodIn wsL_printIn wsX9_printIn := goodIn_ca (goodIn_ca (goodIn_r _ [7, 8, 9, 10, 11, 6, 12, 13, 14, 15, 16, 17, 18, 19, 20, 21, 22, 23, 24, 25, 26, 27, 28, 29, 30, 31, 32, 33, 34, 35, 36, 37, 38, 39, 40, 41, 42, 43, 44, 45, 46, 47, 48, 49, 50, 51, 52, 53, 54, 55, 56, 57, 58, 59, 60, 61] (by decide +kernel) (by decide +kernel)) (goodIn_sub (fun _ h => List.mem_cons_of_mem _ (List.mem_append_left _ (List.mem_append_right _ h))) (by decide +kernel))) (goodIn_sub (fun _ h => List.mem_cons_of_mem _ (List.mem_append_right _ h)) (by decide +kernel))
set_option maxRecDepth 20000 in
theorem gL_printIn_X9_printIn : GoodIn wsL_printIn (wsV RL 76 RX9 yX9_printIn wsX9_printIn) := goodIn_app (goodIn_of _ (by decide +kernel)) ggL_printIn_X9_printIn
theorem dL_printIn_0 : decode cL_printIn 0 = .ok (.aload_n 0, 1) := by decide +kernel
theorem dL_printIn_1 : decode cL_printIn 1 = .ok (.iload_n 1, 1) := by decide +kernel
theorem dL_printIn_2 : decode cL_printIn 2 = .ok (.iload_n 2, 1) := by decide +kernel
theorem dL_printIn_3 : decode cL_printIn 3 = .ok (.invokevirtual 76, 3) := by decide +kernel
theorem dL_printIn_6 : decode cL_printIn 6 = .ok (.ireturn, 1) := by decide +kernel
theorem dL_printIn_7 : decode cL_printIn 7 = .ok (.astore_n 3, 1) := by decide +kernel
theorem dL_printIn_8 : decode cL_printIn 8 = .ok (.sipush (-25000), 3) := by decide +kernel
theorem dL_printIn_11 : decode cL_printIn 11 = .ok (.ireturn, 1) := by decide +kernel
theorem dL_printIn_12 : decode cL_printIn 12 = .ok (.astore_n 3, 1) := by decide +kernel
theorem dL_printIn_13 : decode cL_printIn 13 = .ok (.sipush (-30000), 3) := by decide +kernel
theorem dL_printIn_16 : decode cL_printIn 16 = .ok (.ireturn, 1) := by decide +kernel
set_option maxRecDepth 20000 in
theorem ggL_print_X9_totalPrints : GoodIn wsL_print wsX9_totalPrints := goodIn_r _ [5, 6, 7, 8, 9, 10, 11, 12, 13, 14, 15, 16, 17, 18, 35, 36, 37, 38, 39, 40, 41, 42, 43, 44, 45, 46, 47, 48, 49, 50, 51, 52, 53, 54, 55, 56, 57, 58, 59, 60, 61] (by decide +kernel) (by decide +kernel)
set_option maxRecDepth 20000 in
theorem gL_print_X9_totalPrints : GoodIn wsL_print (wsV RL 93 RX9 yX9_totalPrints wsX9_totalPrints) := goodIn_app (goodIn_of _ (by decide +kernel)) ggL_print_X9_totalPrints
set_option maxRecDepth 20000 in
theorem ggL_print_X9_printByDoubts : GoodIn wsL_print wsX9_printByDoubts := goodIn_ca (goodIn_r _ [22, 23, 24, 6, 25, 26, 27, 28, 29, 30, 10, 31, 16, 32, 33, 34, 17, 35, 36, 37, 38, 39, 40, 41, 42, 43, 44, 45, 46, 47, 48, 49, 50, 51, 52, 53, 54, 55, 56, 57, 58, 59, 60, 61] (by decide +kernel) (by decide +kernel)) (goodIn_sub (fun _ h => List.mem_cons_of_mem _ (List.mem_append_right _ h)) (by decide +kernel))
set_option maxRecDepth 20000 in
theorem gL_print_X9_printByDoubts : GoodIn wsL_print (wsV RL 73 RX9 yX9_printByDoubts wsX9_printByDoubts) := goodIn_app (goodIn_of _ (by decide +kernel)) ggL_print_X9_printByDoubts
theorem dL_print_0 : decode cL_print 0 = .ok (.aload_n 0, 1) := by decide +kernel
theorem dL_print_1 : decode cL_print 1 = .ok (.invokevirtual 93, 3) := by decide +kernel
theorem dL_print_4 : decode cL_print 4 = .ok (.istore_n 2, 1) := by decide +kernel
theorem dL_print_5 : decode cL_print 5 = .ok (.iload_n 2, 1) := by decide +kernel
theorem dL_print_6 : decode cL_print 6 = .ok (.ifCond .ne 7, 3) := by decide +kernel
theorem dL_print_9 : decode cL_print 9 = .ok (.iconst (-1), 1) := by decide +kernel
theorem dL_print_10 : decode cL_print 10 = .ok (.goto 10, 3) := by decide +kernel
theorem dL_print_13 : decode cL_print 13 = .ok (.aload_n 0, 1) := by decide +kernel
theorem dL_print_14 : decode cL_print 14 = .ok (.iload_n 1, 1) := by decide +kernel
theorem dL_print_15 : decode cL_print 15 = .ok (.iload_n 2, 1) := by decide +kernel
theorem dL_print_16 : decode cL_print 16 = .ok (.irem, 1) := by decide +kernel
theorem dL_print_17 : decode cL_print 17 = .ok (.invokevirtual 73, 3) := by decide +kernel
theorem dL_print_20 : decode cL_print 20 = .ok (.ireturn, 1) := by decide +kernel
set_option maxRecDepth 20000 in
theorem ggL_distance_X9_rowOf : GoodIn wsL_distance wsX9_rowOf := goodIn_ca (goodIn_r _ [9, 10, 11, 12, 13, 8, 14, 15, 16, 17, 18, 19, 20, 21, 22, 23, 24, 25, 31, 32, 33, 34, 35, 36, 37, 38, 39, 40, 41, 42, 43, 44, 45, 46, 47, 48, 49, 50, 51, 52, 53, 54, 55, 56, 57] (by decide +kernel) (by decide +kernel)) (goodIn_sub (fun _ h => List.mem_cons_of_mem _ (List.mem_append_right _ h)) (by decide +kernel))
set_option maxRecDepth 20000 in
theorem gL_distance_X9_rowOf : GoodIn wsL_distance (wsV RL 116 RX9 yX9_rowOf wsX9_rowOf) := goodIn_app (goodIn_of _ (by decide +kernel)) ggL_distance_X9_rowOf
set_option maxRecDepth 20000 in
theorem ggL_distance_X9_columnOf : GoodIn wsL_distance wsX9_columnOf := goodIn_ca (goodIn_r _ [29, 30, 11, 12, 13, 8, 14, 15, 16, 17, 18, 19, 20, 21, 22, 23, 24, 25, 31, 32, 33, 34, 35, 36, 37, 38, 39, 40, 41, 42, 43, 44, 45, 46, 47, 48, 49, 50, 51, 52, 53, 54, 55, 56, 57] (by decide +kernel) (by decide +kernel)) (goodIn_sub (fun _ h => List.mem_cons_of_mem _ (List.mem_append_right _ h)) (by decide +kernel))
set_option maxRecDepth 20000 in
theorem gL_distance_X9_columnOf : GoodIn wsL_distance (wsV RL 127 RX9 yX9_columnOf wsX9_columnOf) := goodIn_app (goodIn_of _ (by decide +kernel)) ggL_distance_X9_columnOf
theorem dL_distance_0 : decode cL_distance 0 = .ok (.aload_n 0, 1) := by decide +kernel
theorem dL_distance_1 : decode cL_distance 1 = .ok (.iload_n 1, 1) := by decide +kernel
theorem dL_distance_2 : decode cL_distance 2 = .ok (.invokevirtual 116, 3) := by decide +kernel
theorem dL_distance_5 : decode cL_distance 5 = .ok (.aload_n 0, 1) := by decide +kernel
theorem dL_distance_6 : decode cL_distance 6 = .ok (.iload_n 2, 1) := by decide +kernel
theorem dL_distance_7 : decode cL_distance 7 = .ok (.invokevirtual 116, 3) := by decide +kernel
theorem dL_distance_10 : decode cL_distance 10 = .ok (.isub, 1) := by decide +kernel
theorem dL_distance_11 : decode cL_distance 11 = .ok (.invokestatic 133, 3) := by decide +kernel
theorem dL_distance_14 : decode cL_distance 14 = .ok (.aload_n 0, 1) := by decide +kernel
theorem dL_distance_15 : decode cL_distance 15 = .ok (.iload_n 1, 1) := by decide +kernel
theorem dL_distance_16 : decode cL_distance 16 = .ok (.invokevirtual 127, 3) := by decide +kernel
theorem dL_distance_19 : decode cL_distance 19 = .ok (.aload_n 0, 1) := by decide +kernel
theorem dL_distance_20 : decode cL_distance 20 = .ok (.iload_n 2, 1) := by decide +kernel
theorem dL_distance_21 : decode cL_distance 21 = .ok (.invokevirtual 127, 3) := by decide +kernel
theorem dL_distance_24 : decode cL_distance 24 = .ok (.isub, 1) := by decide +kernel
theorem dL_distance_25 : decode cL_distance 25 = .ok (.invokestatic 133, 3) := by decide +kernel
theorem dL_distance_28 : decode cL_distance 28 = .ok (.iadd, 1) := by decide +kernel
theorem dL_distance_29 : decode cL_distance 29 = .ok (.ireturn, 1) := by decide +kernel
set_option maxRecDepth 20000 in
theorem ggL_errors_L_distance : GoodIn wsL_errors wsL_distance := goodIn_ca (goodIn_r _ [8, 1, 2, 3, 4, 9, 10, 11, 12, 13, 14, 15, 16, 17, 18, 19, 20, 21, 22, 23, 24, 25, 26, 27, 28, 29, 30, 31, 32, 33, 34, 66, 67, 68, 69, 70, 71, 72, 73, 74, 75, 76, 77, 78, 79, 80, 81, 82, 83, 84, 85, 86, 87, 88, 89, 90, 91, 92] (by decide +kernel) (by decide +kernel)) (goodIn_sub (fun _ h => List.mem_cons_of_mem _ (List.mem_append_right _ h)) (by decide +kernel))
set_option maxRecDepth 20000 in
theorem gL_errors_L_distance : GoodIn wsL_errors (va_wsS RL 136 yL_distance wsL_distance) := goodIn_app (goodIn_of _ (by decide +kernel)) ggL_errors_L_distance
set_option maxRecDepth 20000 in
theorem ggL_errors_X9_trackOf : GoodIn wsL_errors wsX9_trackOf := goodIn_ca (goodIn_r _ [38, 39, 15, 16, 17, 12, 18, 19, 20, 21, 22, 23, 24, 25, 26, 27, 28, 29, 66, 67, 68, 69, 70, 71, 72, 73, 74, 75, 76, 77, 78, 79, 80, 81, 82, 83, 84, 85, 86, 87, 88, 89, 90, 91, 92] (by decide +kernel) (by decide +kernel)) (goodIn_sub (fun _ h => List.mem_cons_of_mem _ (List.mem_append_right _ h)) (by decide +kernel))
set_option maxRecDepth 20000 in
theorem gL_errors_X9_trackOf : GoodIn wsL_errors (wsV RL 140 RX9 yX9_trackOf wsX9_trackOf) := goodIn_app (goodIn_of _ (by decide +kernel)) ggL_errors_X9_trackOf
set_option maxRecDepth 20000 in
theorem ggL_errors_X9_maxStride : GoodIn wsL_errors wsX9_maxStride := goodIn_ca (goodIn_r _ [43, 44, 45, 46, 47, 12, 48, 19, 20, 21, 49, 50, 51, 25, 52, 53, 54, 55, 93, 94, 95, 76, 77, 78, 79, 80, 81, 82, 83, 84, 85, 86, 87, 88, 89, 90, 91, 92] (by decide +kernel) (by decide +kernel)) (goodIn_sub (fun _ h => List.mem_cons_of_mem _ (List.mem_append_right _ h)) (by decide +kernel))
set_option maxRecDepth 20000 in
theorem gL_errors_X9_maxStride : GoodIn wsL_errors (wsV RL 143 RX9 yX9_maxStride wsX9_maxStride) := goodIn_app (goodIn_of _ (by decide +kernel)) ggL_errors_X9_maxStride
set_option maxRecDepth 20000 in
theorem ggL_errors_X9_isLeft : GoodIn wsL_errors wsX9_isLeft := goodIn_ca (goodIn_r _ [59, 60, 15, 16, 17, 12, 18, 19, 20, 21, 22, 23, 24, 25, 26, 27, 28, 29, 66, 67, 68, 69, 70, 71, 72, 73, 74, 75, 76, 77, 78, 79, 80, 81, 82, 83, 84, 85, 86, 87, 88, 89, 90, 91, 92] (by decide +kernel) (by decide +kernel)) (goodIn_sub (fun _ h => List.mem_cons_of_mem _ (List.mem_append_right _ h)) (by decide +kernel))
set_option maxRecDepth 20000 in
theorem gL_errors_X9_isLeft : GoodIn wsL_errors (wsV RL 146 RX9 yX9_isLeft wsX9_isLeft) := goodIn_app (goodIn_of _ (by decide +kernel)) ggL_errors_X9_isLeft
set_option maxRecDepth 20000 in
theorem ggL_errors_X9_depthOf : GoodIn wsL_errors wsX9_depthOf := goodIn_ca (goodIn_r _ [64, 65, 15, 16, 17, 12, 18, 19, 20, 21, 22, 23, 24, 25, 26, 27, 28, 29, 66, 67, 68, 69, 70, 71, 72, 73, 74, 75, 76, 77, 78, 79, 80, 81, 82, 83, 84, 85, 86, 87, 88, 89, 90, 91, 92] (by decide +kernel) (by decide +kernel)) (goodIn_sub (fun _ h => List.mem_cons_of_mem _ (List.mem_append_right _ h)) (by decide +kernel))
set_option maxRecDepth 20000 in
theorem gL_errors_X9_depthOf : GoodIn wsL_errors (wsV RL 149 RX9 yX9_depthOf wsX9_depthOf) := goodIn_app (goodIn_of _ (by decide +kernel)) ggL_errors_X9_depthOf
theorem dL_errors_0 : decode cL_errors 0 = .ok (.aload_n 0, 1) := by decide +kernel
theorem dL_errors_1 : decode cL_errors 1 = .ok (.iload_n 1, 1) := by decide +kernel
theorem dL_errors_2 : decode cL_errors 2 = .ok (.iload_n 2, 1) := by decide +kernel
theorem dL_errors_3 : decode cL_errors 3 = .ok (.invokestatic 136, 3) := by decide +kernel
theorem dL_errors_6 : decode cL_errors 6 = .ok (.aload_n 0, 1) := by decide +kernel
theorem dL_errors_7 : decode cL_errors 7 = .ok (.aload_n 0, 1) := by decide +kernel
theorem dL_errors_8 : decode cL_errors 8 = .ok (.iload_n 2, 1) := by decide +kernel
theorem dL_errors_9 : decode cL_errors 9 = .ok (.invokevirtual 140, 3) := by decide +kernel
theorem dL_errors_12 : decode cL_errors 12 = .ok (.invokevirtual 143, 3) := by decide +kernel
theorem dL_errors_15 : decode cL_errors 15 = .ok (.if_icmp .le 7, 3) := by decide +kernel
theorem dL_errors_18 : decode cL_errors 18 = .ok (.iconst 1, 1) := by decide +kernel
theorem dL_errors_19 : decode cL_errors 19 = .ok (.goto 4, 3) := by decide +kernel
theorem dL_errors_22 : decode cL_errors 22 = .ok (.iconst 0, 1) := by decide +kernel
theorem dL_errors_23 : decode cL_errors 23 = .ok (.istore_n 3, 1) := by decide +kernel
theorem dL_errors_24 : decode cL_errors 24 = .ok (.iload_n 3, 1) := by decide +kernel
theorem dL_errors_25 : decode cL_errors 25 = .ok (.aload_n 0, 1) := by decide +kernel
theorem dL_errors_26 : decode cL_errors 26 = .ok (.iload_n 1, 1) := by decide +kernel
theorem dL_errors_27 : decode cL_errors 27 = .ok (.invokevirtual 146, 3) := by decide +kernel
theorem dL_errors_30 : decode cL_errors 30 = .ok (.aload_n 0, 1) := by decide +kernel
theorem dL_errors_31 : decode cL_errors 31 = .ok (.iload_n 2, 1) := by decide +kernel
theorem dL_errors_32 : decode cL_errors 32 = .ok (.invokevirtual 146, 3) := by decide +kernel
theorem dL_errors_35 : decode cL_errors 35 = .ok (.if_icmp .ne 7, 3) := by decide +kernel
theorem dL_errors_38 : decode cL_errors 38 = .ok (.iconst 2, 1) := by decide +kernel
theorem dL_errors_39 : decode cL_errors 39 = .ok (.goto 4, 3) := by decide +kernel
theorem dL_errors_42 : decode cL_errors 42 = .ok (.iconst 0, 1) := by decide +kernel
theorem dL_errors_43 : decode cL_errors 43 = .ok (.iadd, 1) := by decide +kernel
theorem dL_errors_44 : decode cL_errors 44 = .ok (.aload_n 0, 1) := by decide +kernel
theorem dL_errors_45 : decode cL_errors 45 = .ok (.iload_n 1, 1) := by decide +kernel
theorem dL_errors_46 : decode cL_errors 46 = .ok (.invokevirtual 149, 3) := by decide +kernel
theorem dL_errors_49 : decode cL_errors 49 = .ok (.aload_n 0, 1) := by decide +kernel
theorem dL_errors_50 : decode cL_errors 50 = .ok (.iload_n 2, 1) := by decide +kernel
theorem dL_errors_51 : decode cL_errors 51 = .ok (.invokevirtual 149, 3) := by decide +kernel
theorem dL_errors_54 : decode cL_errors 54 = .ok (.isub, 1) := by decide +kernel
theorem dL_errors_55 : decode cL_errors 55 = .ok (.invokestatic 133, 3) := by decide +kernel
theorem dL_errors_58 : decode cL_errors 58 = .ok (.iconst 3, 1) := by decide +kernel
theorem dL_errors_59 : decode cL_errors 59 = .ok (.if_icmp .le 7, 3) := by decide +kernel
theorem dL_errors_62 : decode cL_errors 62 = .ok (.iconst 4, 1) := by decide +kernel
theorem dL_errors_63 : decode cL_errors 63 = .ok (.goto 4, 3) := by decide +kernel
theorem dL_errors_66 : decode cL_errors 66 = .ok (.iconst 0, 1) := by decide +kernel
theorem dL_errors_67 : decode cL_errors 67 = .ok (.iadd, 1) := by decide +kernel
theorem dL_errors_68 : decode cL_errors 68 = .ok (.ireturn, 1) := by decide +kernel
set_option maxRecDepth 20000 in
theorem ggL_isLine_J0_length_8abf5 : GoodIn wsL_isLine wsJ0_length_8abf5 := goodIn_r _ [5, 6, 7, 8, 9, 4, 10, 11, 12, 70, 71, 72, 73] (by decide +kernel) (by decide +kernel)
set_option maxRecDepth 20000 in
theorem gL_isLine_J0_length_8abf5 : GoodIn wsL_isLine (wsV RL 152 RJ0 yJ0_length_8abf5 wsJ0_length_8abf5) := goodIn_app (goodIn_of _ (by decide +kernel)) ggL_isLine_J0_length_8abf5
set_option maxRecDepth 20000 in
theorem ggL_isLine_X9_outputAt : GoodIn wsL_isLine wsX9_outputAt := goodIn_ca (goodIn_ca (goodIn_r _ [17, 18, 19, 20, 21, 22, 23, 24, 25, 26, 27, 28, 29, 30, 31, 32, 74, 75, 76, 77, 78, 79, 80, 81, 82, 83, 84, 85] (by decide +kernel) (by decide +kernel)) (goodIn_sub (fun _ h => List.mem_cons_of_mem _ (List.mem_append_left _ (List.mem_append_right _ h))) (by decide +kernel))) (goodIn_sub (fun _ h => List.mem_cons_of_mem _ (List.mem_append_right _ h)) (by decide +kernel))
set_option maxRecDepth 20000 in
theorem gL_isLine_X9_outputAt : GoodIn wsL_isLine (wsV RL 157 RX9 yX9_outputAt wsX9_outputAt) := goodIn_app (goodIn_of _ (by decide +kernel)) ggL_isLine_X9_outputAt
set_option maxRecDepth 20000 in
theorem ggL_isLine_J0_charAt_5068e : GoodIn wsL_isLine wsJ0_charAt_5068e := goodIn_r _ [36, 6, 37, 38, 39, 4, 40, 11, 12, 41, 42, 43, 44, 45, 46, 47, 48, 49, 50, 51, 52, 53, 54, 55, 56, 57, 58, 59, 60, 61, 62, 63, 64, 65, 66, 67, 68, 69, 70, 71, 72, 73] (by decide +kernel) (by decide +kernel)
set_option maxRecDepth 20000 in
theorem gL_isLine_J0_charAt_5068e : GoodIn wsL_isLine (wsV RL 161 RJ0 yJ0_charAt_5068e wsJ0_charAt_5068e) := goodIn_app (goodIn_of _ (by decide +kernel)) ggL_isLine_J0_charAt_5068e
theorem dL_isLine_0 : decode cL_isLine 0 = .ok (.iload_n 1, 1) := by decide +kernel
theorem dL_isLine_1 : decode cL_isLine 1 = .ok (.aload_n 2, 1) := by decide +kernel
theorem dL_isLine_2 : decode cL_isLine 2 = .ok (.invokevirtual 152, 3) := by decide +kernel
theorem dL_isLine_5 : decode cL_isLine 5 = .ok (.if_icmp .eq 5, 3) := by decide +kernel
theorem dL_isLine_8 : decode cL_isLine 8 = .ok (.iconst 0, 1) := by decide +kernel
theorem dL_isLine_9 : decode cL_isLine 9 = .ok (.ireturn, 1) := by decide +kernel
theorem dL_isLine_10 : decode cL_isLine 10 = .ok (.iconst 0, 1) := by decide +kernel
theorem dL_isLine_11 : decode cL_isLine 11 = .ok (.istore_n 3, 1) := by decide +kernel
theorem dL_isLine_12 : decode cL_isLine 12 = .ok (.iload_n 3, 1) := by decide +kernel
theorem dL_isLine_13 : decode cL_isLine 13 = .ok (.iload_n 1, 1) := by decide +kernel
theorem dL_isLine_14 : decode cL_isLine 14 = .ok (.if_icmp .ge 24, 3) := by decide +kernel
theorem dL_isLine_17 : decode cL_isLine 17 = .ok (.aload_n 0, 1) := by decide +kernel
theorem dL_isLine_18 : decode cL_isLine 18 = .ok (.iload_n 3, 1) := by decide +kernel
theorem dL_isLine_19 : decode cL_isLine 19 = .ok (.invokevirtual 157, 3) := by decide +kernel
theorem dL_isLine_22 : decode cL_isLine 22 = .ok (.aload_n 2, 1) := by decide +kernel
theorem dL_isLine_23 : decode cL_isLine 23 = .ok (.iload_n 3, 1) := by decide +kernel
theorem dL_isLine_24 : decode cL_isLine 24 = .ok (.invokevirtual 161, 3) := by decide +kernel
theorem dL_isLine_27 : decode cL_isLine 27 = .ok (.if_icmp .eq 5, 3) := by decide +kernel
theorem dL_isLine_30 : decode cL_isLine 30 = .ok (.iconst 0, 1) := by decide +kernel
theorem dL_isLine_31 : decode cL_isLine 31 = .ok (.ireturn, 1) := by decide +kernel
theorem dL_isLine_32 : decode cL_isLine 32 = .ok (.iinc 3 1, 3) := by decide +kernel
theorem dL_isLine_35 : decode cL_isLine 35 = .ok (.goto (-23), 3) := by decide +kernel
theorem dL_isLine_38 : decode cL_isLine 38 = .ok (.iconst 1, 1) := by decide +kernel
theorem dL_isLine_39 : decode cL_isLine 39 = .ok (.ireturn, 1) := by decide +kernel
