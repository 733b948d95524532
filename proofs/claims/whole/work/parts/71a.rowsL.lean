set_option maxRecDepth 20000 in
theorem ggL_addTrack_X9_addTrack : GoodIn wsL_addTrack wsX9_addTrack := goodIn_ca (goodIn_ca (goodIn_r _ [7, 8, 9, 10, 11, 12, 13, 6, 14, 15, 16, 17, 18, 19, 20, 21, 22, 23, 24, 25, 26, 27, 28, 29, 30, 31, 32, 33, 34, 35, 36, 37, 38, 39, 40, 41, 42, 43, 44, 45, 46, 47, 48, 49, 50, 51, 52, 53, 54, 55, 56, 57, 58, 59, 60, 61, 62, 63, 64, 65, 66, 67, 68, 69, 70, 71, 72, 73, 74, 75, 76, 77, 78, 79, 80, 81, 82, 83, 84, 85, 86, 87, 88, 89, 90, 91, 92, 93, 94, 95, 96, 97, 98, 99, 100, 101, 102, 103, 104, 105, 106, 107, 108, 109, 110, 111, 112, 113, 114, 115, 116, 117, 118, 119, 120, 121, 122, 123, 124, 125, 126, 127, 128, 129] (by decide +kernel) (by decide +kernel)) (goodIn_sub (fun _ h => List.mem_cons_of_mem _ (List.mem_append_left _ (List.mem_append_right _ h))) (by decide +kernel))) (goodIn_sub (fun _ h => List.mem_cons_of_mem _ (List.mem_append_right _ h)) (by decide +kernel))
set_option maxRecDepth 20000 in
theorem gL_addTrack_X9_addTrack : GoodIn wsL_addTrack (wsV RL 7 RX9 yX9_addTrack wsX9_addTrack) := goodIn_app (goodIn_of _ (by decide +kernel)) ggL_addTrack_X9_addTrack
theorem dL_addTrack_0 : decode cL_addTrack 0 = .ok (.aload_n 2, 1) := by decide +kernel
theorem dL_addTrack_1 : decode cL_addTrack 1 = .ok (.iconst 0, 1) := by decide +kernel
theorem dL_addTrack_2 : decode cL_addTrack 2 = .ok (.aload_n 0, 1) := by decide +kernel
theorem dL_addTrack_3 : decode cL_addTrack 3 = .ok (.iload_n 1, 1) := by decide +kernel
theorem dL_addTrack_4 : decode cL_addTrack 4 = .ok (.invokevirtual 7, 3) := by decide +kernel
theorem dL_addTrack_7 : decode cL_addTrack 7 = .ok (.i2l, 1) := by decide +kernel
theorem dL_addTrack_8 : decode cL_addTrack 8 = .ok (.lastore, 1) := by decide +kernel
theorem dL_addTrack_9 : decode cL_addTrack 9 = .ok (.goto 9, 3) := by decide +kernel
theorem dL_addTrack_12 : decode cL_addTrack 12 = .ok (.astore_n 3, 1) := by decide +kernel
theorem dL_addTrack_13 : decode cL_addTrack 13 = .ok (.iconst 1, 1) := by decide +kernel
theorem dL_addTrack_14 : decode cL_addTrack 14 = .ok (.ireturn, 1) := by decide +kernel
theorem dL_addTrack_15 : decode cL_addTrack 15 = .ok (.astore_n 3, 1) := by decide +kernel
theorem dL_addTrack_16 : decode cL_addTrack 16 = .ok (.iconst 2, 1) := by decide +kernel
theorem dL_addTrack_17 : decode cL_addTrack 17 = .ok (.ireturn, 1) := by decide +kernel
theorem dL_addTrack_18 : decode cL_addTrack 18 = .ok (.iconst 0, 1) := by decide +kernel
theorem dL_addTrack_19 : decode cL_addTrack 19 = .ok (.ireturn, 1) := by decide +kernel
set_option maxRecDepth 20000 in
theorem ggL_removeTrack_X9_removeTrack : GoodIn wsL_removeTrack wsX9_removeTrack := goodIn_ca (goodIn_r _ [6, 7, 8, 9, 10, 11, 5, 12, 13, 14, 15, 16, 17, 18, 19, 20, 21, 22, 23, 24, 25, 26, 27, 28, 29, 30, 31, 32, 33, 34, 35, 36, 37, 38, 39, 40, 41, 42, 43, 44, 45, 46, 47, 48, 49, 50, 51, 52, 53, 54, 55, 56, 57, 58, 59, 60, 61, 62, 63, 64, 65, 66, 67, 68, 69, 70, 71, 72, 73, 74, 75, 76, 77, 78, 79, 80, 81, 82, 83, 84, 85, 86, 87, 88, 89, 90, 91, 92, 93, 94, 95, 96, 97, 98, 99, 100, 101, 102, 103, 104, 105, 106, 107] (by decide +kernel) (by decide +kernel)) (goodIn_sub (fun _ h => List.mem_cons_of_mem _ (List.mem_append_right _ h)) (by decide +kernel))
set_option maxRecDepth 20000 in
theorem gL_removeTrack_X9_removeTrack : GoodIn wsL_removeTrack (wsV RL 17 RX9 yX9_removeTrack wsX9_removeTrack) := goodIn_app (goodIn_of _ (by decide +kernel)) ggL_removeTrack_X9_removeTrack
theorem dL_removeTrack_0 : decode cL_removeTrack 0 = .ok (.aload_n 2, 1) := by decide +kernel
theorem dL_removeTrack_1 : decode cL_removeTrack 1 = .ok (.iconst 0, 1) := by decide +kernel
theorem dL_removeTrack_2 : decode cL_removeTrack 2 = .ok (.aload_n 0, 1) := by decide +kernel
theorem dL_removeTrack_3 : decode cL_removeTrack 3 = .ok (.iload_n 1, 1) := by decide +kernel
theorem dL_removeTrack_4 : decode cL_removeTrack 4 = .ok (.invokevirtual 17, 3) := by decide +kernel
theorem dL_removeTrack_7 : decode cL_removeTrack 7 = .ok (.i2l, 1) := by decide +kernel
theorem dL_removeTrack_8 : decode cL_removeTrack 8 = .ok (.lastore, 1) := by decide +kernel
theorem dL_removeTrack_9 : decode cL_removeTrack 9 = .ok (.goto 6, 3) := by decide +kernel
theorem dL_removeTrack_12 : decode cL_removeTrack 12 = .ok (.astore_n 3, 1) := by decide +kernel
theorem dL_removeTrack_13 : decode cL_removeTrack 13 = .ok (.iconst 1, 1) := by decide +kernel
theorem dL_removeTrack_14 : decode cL_removeTrack 14 = .ok (.ireturn, 1) := by decide +kernel
theorem dL_removeTrack_15 : decode cL_removeTrack 15 = .ok (.iconst 0, 1) := by decide +kernel
theorem dL_removeTrack_16 : decode cL_removeTrack 16 = .ok (.ireturn, 1) := by decide +kernel
set_option maxRecDepth 20000 in
theorem ggL_addPrint_X9_addPrint : GoodIn wsL_addPrint wsX9_addPrint := goodIn_ca (goodIn_ca (goodIn_ca (goodIn_r _ [8, 9, 10, 11, 12, 13, 14, 15, 7, 16, 17, 18, 19, 20, 21, 22, 23, 24, 25, 26, 27, 28, 29, 30, 31, 32, 33, 34, 35, 36, 37, 38, 39, 40, 41, 42, 43, 44, 45, 46, 47, 48, 49, 50, 51, 52, 53, 54, 55, 56, 57, 58, 59, 60, 61, 62, 63, 64, 65, 66, 67, 68, 69, 70, 71, 72, 73, 74, 75, 76, 77, 78, 79, 80, 81, 82, 83, 84, 85, 86, 87, 88, 89, 90, 91, 92, 93, 94, 95, 96, 97, 98, 99, 100, 101, 102, 103, 104, 105, 106, 107, 108, 109, 110, 111, 112, 113, 114, 115, 116, 117, 118, 119, 120, 121, 122, 123, 124, 125, 126, 127, 128, 129, 130, 131, 132, 133, 134, 135, 136, 137, 138, 139, 140, 141, 142, 143, 144, 145, 146, 147, 148, 149, 150, 151, 152, 153, 154, 155, 156, 157, 158, 159, 160, 161, 162, 163, 164, 165, 166, 167, 168, 169, 170, 171, 172, 173, 174, 175, 176, 177, 178, 179, 180, 181, 182, 183, 184, 185, 186, 187, 188, 189] (by decide +kernel) (by decide +kernel)) (goodIn_sub (fun _ h => List.mem_cons_of_mem _ (List.mem_append_left _ (List.mem_append_left _ (List.mem_append_right _ h)))) (by decide +kernel))) (goodIn_sub (fun _ h => List.mem_cons_of_mem _ (List.mem_append_left _ (List.mem_append_right _ h))) (by decide +kernel))) (goodIn_sub (fun _ h => List.mem_cons_of_mem _ (List.mem_append_right _ h)) (by decide +kernel))
set_option maxRecDepth 20000 in
theorem gL_addPrint_X9_addPrint : GoodIn wsL_addPrint (wsV RL 22 RX9 yX9_addPrint wsX9_addPrint) := goodIn_app (goodIn_of _ (by decide +kernel)) ggL_addPrint_X9_addPrint
theorem dL_addPrint_0 : decode cL_addPrint 0 = .ok (.aload 7, 2) := by decide +kernel
theorem dL_addPrint_2 : decode cL_addPrint 2 = .ok (.iconst 0, 1) := by decide +kernel
theorem dL_addPrint_3 : decode cL_addPrint 3 = .ok (.aload_n 0, 1) := by decide +kernel
theorem dL_addPrint_4 : decode cL_addPrint 4 = .ok (.iload_n 1, 1) := by decide +kernel
theorem dL_addPrint_5 : decode cL_addPrint 5 = .ok (.iload_n 2, 1) := by decide +kernel
theorem dL_addPrint_6 : decode cL_addPrint 6 = .ok (.iload_n 3, 1) := by decide +kernel
theorem dL_addPrint_7 : decode cL_addPrint 7 = .ok (.iload 4, 2) := by decide +kernel
theorem dL_addPrint_9 : decode cL_addPrint 9 = .ok (.iload 5, 2) := by decide +kernel
theorem dL_addPrint_11 : decode cL_addPrint 11 = .ok (.iload 6, 2) := by decide +kernel
theorem dL_addPrint_13 : decode cL_addPrint 13 = .ok (.invokevirtual 22, 3) := by decide +kernel
theorem dL_addPrint_16 : decode cL_addPrint 16 = .ok (.i2l, 1) := by decide +kernel
theorem dL_addPrint_17 : decode cL_addPrint 17 = .ok (.lastore, 1) := by decide +kernel
theorem dL_addPrint_18 : decode cL_addPrint 18 = .ok (.goto 15, 3) := by decide +kernel
theorem dL_addPrint_21 : decode cL_addPrint 21 = .ok (.astore 8, 2) := by decide +kernel
theorem dL_addPrint_23 : decode cL_addPrint 23 = .ok (.iconst 1, 1) := by decide +kernel
theorem dL_addPrint_24 : decode cL_addPrint 24 = .ok (.ireturn, 1) := by decide +kernel
theorem dL_addPrint_25 : decode cL_addPrint 25 = .ok (.astore 8, 2) := by decide +kernel
theorem dL_addPrint_27 : decode cL_addPrint 27 = .ok (.iconst 2, 1) := by decide +kernel
theorem dL_addPrint_28 : decode cL_addPrint 28 = .ok (.ireturn, 1) := by decide +kernel
theorem dL_addPrint_29 : decode cL_addPrint 29 = .ok (.astore 8, 2) := by decide +kernel
theorem dL_addPrint_31 : decode cL_addPrint 31 = .ok (.iconst 3, 1) := by decide +kernel
theorem dL_addPrint_32 : decode cL_addPrint 32 = .ok (.ireturn, 1) := by decide +kernel
theorem dL_addPrint_33 : decode cL_addPrint 33 = .ok (.iconst 0, 1) := by decide +kernel
theorem dL_addPrint_34 : decode cL_addPrint 34 = .ok (.ireturn, 1) := by decide +kernel
set_option maxRecDepth 20000 in
theorem ggL_removePrint_X9_removePrint : GoodIn wsL_removePrint wsX9_removePrint := goodIn_ca (goodIn_r _ [6, 7, 8, 9, 10, 11, 12, 5, 13, 14, 15, 16, 17, 18, 19, 20, 21, 22, 23, 24, 25, 26, 27, 28, 29, 30, 31, 32, 33, 34, 35, 36, 37, 38, 39, 40, 41, 42, 43, 44, 45, 46, 47, 48, 49, 50, 51, 52, 53, 54, 55, 56, 57, 58, 59, 60, 61, 62, 63, 64, 65, 66, 67, 68, 69, 70, 71, 72, 73, 74, 75, 76, 77, 78, 79, 80, 81, 82, 83, 84, 85, 86, 87, 88, 89, 90, 91, 92, 93, 94, 95, 96, 97, 98, 99, 100, 101, 102, 103] (by decide +kernel) (by decide +kernel)) (goodIn_sub (fun _ h => List.mem_cons_of_mem _ (List.mem_append_right _ h)) (by decide +kernel))
set_option maxRecDepth 20000 in
theorem gL_removePrint_X9_removePrint : GoodIn wsL_removePrint (wsV RL 26 RX9 yX9_removePrint wsX9_removePrint) := goodIn_app (goodIn_of _ (by decide +kernel)) ggL_removePrint_X9_removePrint
theorem dL_removePrint_0 : decode cL_removePrint 0 = .ok (.aload_n 2, 1) := by decide +kernel
theorem dL_removePrint_1 : decode cL_removePrint 1 = .ok (.iconst 0, 1) := by decide +kernel
theorem dL_removePrint_2 : decode cL_removePrint 2 = .ok (.aload_n 0, 1) := by decide +kernel
theorem dL_removePrint_3 : decode cL_removePrint 3 = .ok (.iload_n 1, 1) := by decide +kernel
theorem dL_removePrint_4 : decode cL_removePrint 4 = .ok (.invokevirtual 26, 3) := by decide +kernel
theorem dL_removePrint_7 : decode cL_removePrint 7 = .ok (.i2l, 1) := by decide +kernel
theorem dL_removePrint_8 : decode cL_removePrint 8 = .ok (.lastore, 1) := by decide +kernel
theorem dL_removePrint_9 : decode cL_removePrint 9 = .ok (.goto 6, 3) := by decide +kernel
theorem dL_removePrint_12 : decode cL_removePrint 12 = .ok (.astore_n 3, 1) := by decide +kernel
theorem dL_removePrint_13 : decode cL_removePrint 13 = .ok (.iconst 1, 1) := by decide +kernel
theorem dL_removePrint_14 : decode cL_removePrint 14 = .ok (.ireturn, 1) := by decide +kernel
theorem dL_removePrint_15 : decode cL_removePrint 15 = .ok (.iconst 0, 1) := by decide +kernel
theorem dL_removePrint_16 : decode cL_removePrint 16 = .ok (.ireturn, 1) := by decide +kernel
set_option maxRecDepth 20000 in
theorem ggL_correctHeel_X9_correctHeel : GoodIn wsL_correctHeel wsX9_correctHeel := goodIn_ca (goodIn_ca (goodIn_r _ [7, 8, 9, 10, 11, 12, 6, 13, 14, 15, 16, 17, 18, 19, 20, 21, 22, 23, 24, 25, 26, 27, 28, 29, 30, 31, 32, 33, 34, 35, 36, 37, 38, 39, 40, 41, 42, 43, 44, 45, 46, 47, 48, 49, 50, 51, 52, 53, 54, 55, 56, 57, 58, 59, 60, 61, 62, 63, 64, 65, 66, 67, 68, 69, 70, 71, 72, 73, 74, 75, 76, 77, 78, 79, 80, 81, 82, 83, 84, 85, 86, 87, 88, 89, 90, 91, 92, 93, 94, 95, 96, 97, 98, 99, 100, 101, 102, 103, 104, 105, 106, 107, 108, 109, 110, 111, 112, 113, 114, 115, 116, 117, 118, 119, 120, 121, 122, 123, 124, 125, 126, 127, 128, 129, 130, 131, 132, 133, 134, 135, 136, 137, 138, 139, 140, 141, 142, 143, 144, 145, 146, 147, 148, 149, 150, 151, 152, 153, 154, 155, 156, 157, 158, 159] (by decide +kernel) (by decide +kernel)) (goodIn_sub (fun _ h => List.mem_cons_of_mem _ (List.mem_append_left _ (List.mem_append_right _ h))) (by decide +kernel))) (goodIn_sub (fun _ h => List.mem_cons_of_mem _ (List.mem_append_right _ h)) (by decide +kernel))
set_option maxRecDepth 20000 in
theorem gL_correctHeel_X9_correctHeel : GoodIn wsL_correctHeel (wsV RL 29 RX9 yX9_correctHeel wsX9_correctHeel) := goodIn_app (goodIn_of _ (by decide +kernel)) ggL_correctHeel_X9_correctHeel
theorem dL_correctHeel_0 : decode cL_correctHeel 0 = .ok (.aload 4, 2) := by decide +kernel
theorem dL_correctHeel_2 : decode cL_correctHeel 2 = .ok (.iconst 0, 1) := by decide +kernel
theorem dL_correctHeel_3 : decode cL_correctHeel 3 = .ok (.aload_n 0, 1) := by decide +kernel
theorem dL_correctHeel_4 : decode cL_correctHeel 4 = .ok (.iload_n 1, 1) := by decide +kernel
theorem dL_correctHeel_5 : decode cL_correctHeel 5 = .ok (.iload_n 2, 1) := by decide +kernel
theorem dL_correctHeel_6 : decode cL_correctHeel 6 = .ok (.iload_n 3, 1) := by decide +kernel
theorem dL_correctHeel_7 : decode cL_correctHeel 7 = .ok (.invokevirtual 29, 3) := by decide +kernel
theorem dL_correctHeel_10 : decode cL_correctHeel 10 = .ok (.i2l, 1) := by decide +kernel
theorem dL_correctHeel_11 : decode cL_correctHeel 11 = .ok (.lastore, 1) := by decide +kernel
theorem dL_correctHeel_12 : decode cL_correctHeel 12 = .ok (.goto 11, 3) := by decide +kernel
theorem dL_correctHeel_15 : decode cL_correctHeel 15 = .ok (.astore 5, 2) := by decide +kernel
theorem dL_correctHeel_17 : decode cL_correctHeel 17 = .ok (.iconst 1, 1) := by decide +kernel
theorem dL_correctHeel_18 : decode cL_correctHeel 18 = .ok (.ireturn, 1) := by decide +kernel
theorem dL_correctHeel_19 : decode cL_correctHeel 19 = .ok (.astore 5, 2) := by decide +kernel
theorem dL_correctHeel_21 : decode cL_correctHeel 21 = .ok (.iconst 2, 1) := by decide +kernel
theorem dL_correctHeel_22 : decode cL_correctHeel 22 = .ok (.ireturn, 1) := by decide +kernel
theorem dL_correctHeel_23 : decode cL_correctHeel 23 = .ok (.iconst 0, 1) := by decide +kernel
theorem dL_correctHeel_24 : decode cL_correctHeel 24 = .ok (.ireturn, 1) := by decide +kernel
set_option maxRecDepth 20000 in
theorem ggL_swapFoot_X9_swapFoot : GoodIn wsL_swapFoot wsX9_swapFoot := goodIn_ca (goodIn_r _ [6, 7, 8, 9, 10, 11, 5, 12, 13, 14, 15, 16, 17, 18, 19, 20, 21, 22, 23, 24, 25, 26, 27, 28, 29, 30, 31, 32, 33, 34, 35, 36, 37, 38, 39, 40, 41, 42, 43, 44, 45, 46, 47, 48, 49, 50, 51, 52, 53, 54, 55, 56, 57, 58, 59, 60, 61, 62, 63, 64, 65, 66, 67, 68, 69, 70, 71, 72, 73, 74, 75, 76, 77, 78, 79, 80, 81, 82, 83, 84, 85, 86, 87, 88, 89, 90, 91, 92, 93, 94, 95, 96, 97, 98, 99, 100, 101, 102] (by decide +kernel) (by decide +kernel)) (goodIn_sub (fun _ h => List.mem_cons_of_mem _ (List.mem_append_right _ h)) (by decide +kernel))
set_option maxRecDepth 20000 in
theorem gL_swapFoot_X9_swapFoot : GoodIn wsL_swapFoot (wsV RL 33 RX9 yX9_swapFoot wsX9_swapFoot) := goodIn_app (goodIn_of _ (by decide +kernel)) ggL_swapFoot_X9_swapFoot
theorem dL_swapFoot_0 : decode cL_swapFoot 0 = .ok (.aload_n 2, 1) := by decide +kernel
theorem dL_swapFoot_1 : decode cL_swapFoot 1 = .ok (.iconst 0, 1) := by decide +kernel
theorem dL_swapFoot_2 : decode cL_swapFoot 2 = .ok (.aload_n 0, 1) := by decide +kernel
theorem dL_swapFoot_3 : decode cL_swapFoot 3 = .ok (.iload_n 1, 1) := by decide +kernel
theorem dL_swapFoot_4 : decode cL_swapFoot 4 = .ok (.invokevirtual 33, 3) := by decide +kernel
theorem dL_swapFoot_7 : decode cL_swapFoot 7 = .ok (.ifCond .eq 7, 3) := by decide +kernel
theorem dL_swapFoot_10 : decode cL_swapFoot 10 = .ok (.lconst 1, 1) := by decide +kernel
theorem dL_swapFoot_11 : decode cL_swapFoot 11 = .ok (.goto 4, 3) := by decide +kernel
theorem dL_swapFoot_14 : decode cL_swapFoot 14 = .ok (.lconst 0, 1) := by decide +kernel
theorem dL_swapFoot_15 : decode cL_swapFoot 15 = .ok (.lastore, 1) := by decide +kernel
theorem dL_swapFoot_16 : decode cL_swapFoot 16 = .ok (.goto 6, 3) := by decide +kernel
theorem dL_swapFoot_19 : decode cL_swapFoot 19 = .ok (.astore_n 3, 1) := by decide +kernel
theorem dL_swapFoot_20 : decode cL_swapFoot 20 = .ok (.iconst 1, 1) := by decide +kernel
theorem dL_swapFoot_21 : decode cL_swapFoot 21 = .ok (.ireturn, 1) := by decide +kernel
theorem dL_swapFoot_22 : decode cL_swapFoot 22 = .ok (.iconst 0, 1) := by decide +kernel
theorem dL_swapFoot_23 : decode cL_swapFoot 23 = .ok (.ireturn, 1) := by decide +kernel
set_option maxRecDepth 20000 in
theorem ggL_doubtToes_X9_doubtToes : GoodIn wsL_doubtToes wsX9_doubtToes := goodIn_ca (goodIn_ca (goodIn_r _ [7, 8, 9, 10, 11, 12, 6, 13, 14, 15, 16, 17, 18, 19, 20, 21, 22, 23, 24, 25, 26, 27, 28, 29, 30, 31, 32, 33, 34, 35, 36, 37, 38, 39, 40, 41, 42, 43, 44, 45, 46, 47, 48, 49, 50, 51, 52, 53, 54, 55, 56, 57, 58, 59, 60, 61, 62, 63, 64, 65, 66, 67, 68, 69, 70, 71, 72, 73, 74, 75, 76, 77, 78, 79, 80, 81, 82, 83, 84, 85, 86, 87, 88, 89, 90, 91, 92, 93, 94, 95, 96, 97, 98, 99, 100, 101, 102, 103, 104, 105, 106, 107, 108, 109, 110, 111, 112, 113, 114, 115, 116, 117, 118, 119, 120, 121, 122, 123, 124, 125, 126, 127, 128, 129, 130] (by decide +kernel) (by decide +kernel)) (goodIn_sub (fun _ h => List.mem_cons_of_mem _ (List.mem_append_left _ (List.mem_append_right _ h))) (by decide +kernel))) (goodIn_sub (fun _ h => List.mem_cons_of_mem _ (List.mem_append_right _ h)) (by decide +kernel))
set_option maxRecDepth 20000 in
theorem gL_doubtToes_X9_doubtToes : GoodIn wsL_doubtToes (wsV RL 37 RX9 yX9_doubtToes wsX9_doubtToes) := goodIn_app (goodIn_of _ (by decide +kernel)) ggL_doubtToes_X9_doubtToes
theorem dL_doubtToes_0 : decode cL_doubtToes 0 = .ok (.aload_n 2, 1) := by decide +kernel
theorem dL_doubtToes_1 : decode cL_doubtToes 1 = .ok (.iconst 0, 1) := by decide +kernel
theorem dL_doubtToes_2 : decode cL_doubtToes 2 = .ok (.aload_n 0, 1) := by decide +kernel
theorem dL_doubtToes_3 : decode cL_doubtToes 3 = .ok (.iload_n 1, 1) := by decide +kernel
theorem dL_doubtToes_4 : decode cL_doubtToes 4 = .ok (.invokevirtual 37, 3) := by decide +kernel
theorem dL_doubtToes_7 : decode cL_doubtToes 7 = .ok (.i2l, 1) := by decide +kernel
theorem dL_doubtToes_8 : decode cL_doubtToes 8 = .ok (.lastore, 1) := by decide +kernel
theorem dL_doubtToes_9 : decode cL_doubtToes 9 = .ok (.goto 9, 3) := by decide +kernel
theorem dL_doubtToes_12 : decode cL_doubtToes 12 = .ok (.astore_n 3, 1) := by decide +kernel
theorem dL_doubtToes_13 : decode cL_doubtToes 13 = .ok (.iconst 1, 1) := by decide +kernel
theorem dL_doubtToes_14 : decode cL_doubtToes 14 = .ok (.ireturn, 1) := by decide +kernel
theorem dL_doubtToes_15 : decode cL_doubtToes 15 = .ok (.astore_n 3, 1) := by decide +kernel
theorem dL_doubtToes_16 : decode cL_doubtToes 16 = .ok (.iconst 2, 1) := by decide +kernel
theorem dL_doubtToes_17 : decode cL_doubtToes 17 = .ok (.ireturn, 1) := by decide +kernel
theorem dL_doubtToes_18 : decode cL_doubtToes 18 = .ok (.iconst 0, 1) := by decide +kernel
theorem dL_doubtToes_19 : decode cL_doubtToes 19 = .ok (.ireturn, 1) := by decide +kernel
set_option maxRecDepth 20000 in
theorem ggL_confirmToes_X9_confirmToes : GoodIn wsL_confirmToes wsX9_confirmToes := goodIn_ca (goodIn_ca (goodIn_r _ [7, 8, 9, 10, 11, 12, 6, 13, 14, 15, 16, 17, 18, 19, 20, 21, 22, 23, 24, 25, 26, 27, 28, 29, 30, 31, 32, 33, 34, 35, 36, 37, 38, 39, 40, 41, 42, 43, 44, 45, 46, 47, 48, 49, 50, 51, 52, 53, 54, 55, 56, 57, 58, 59, 60, 61, 62, 63, 64, 65, 66, 67, 68, 69, 70, 71, 72, 73, 74, 75, 76, 77, 78, 79, 80, 81, 82, 83, 84, 85, 86, 87, 88, 89, 90, 91, 92, 93, 94, 95, 96, 97, 98, 99, 100, 101, 102, 103, 104, 105, 106, 107, 108, 109, 110, 111, 112, 113, 114, 115, 116, 117, 118, 119, 120, 121, 122, 123, 124, 125, 126, 127, 128, 129, 130] (by decide +kernel) (by decide +kernel)) (goodIn_sub (fun _ h => List.mem_cons_of_mem _ (List.mem_append_left _ (List.mem_append_right _ h))) (by decide +kernel))) (goodIn_sub (fun _ h => List.mem_cons_of_mem _ (List.mem_append_right _ h)) (by decide +kernel))
set_option maxRecDepth 20000 in
theorem gL_confirmToes_X9_confirmToes : GoodIn wsL_confirmToes (wsV RL 40 RX9 yX9_confirmToes wsX9_confirmToes) := goodIn_app (goodIn_of _ (by decide +kernel)) ggL_confirmToes_X9_confirmToes
theorem dL_confirmToes_0 : decode cL_confirmToes 0 = .ok (.aload_n 2, 1) := by decide +kernel
theorem dL_confirmToes_1 : decode cL_confirmToes 1 = .ok (.iconst 0, 1) := by decide +kernel
theorem dL_confirmToes_2 : decode cL_confirmToes 2 = .ok (.aload_n 0, 1) := by decide +kernel
theorem dL_confirmToes_3 : decode cL_confirmToes 3 = .ok (.iload_n 1, 1) := by decide +kernel
theorem dL_confirmToes_4 : decode cL_confirmToes 4 = .ok (.invokevirtual 40, 3) := by decide +kernel
theorem dL_confirmToes_7 : decode cL_confirmToes 7 = .ok (.i2l, 1) := by decide +kernel
theorem dL_confirmToes_8 : decode cL_confirmToes 8 = .ok (.lastore, 1) := by decide +kernel
theorem dL_confirmToes_9 : decode cL_confirmToes 9 = .ok (.goto 9, 3) := by decide +kernel
theorem dL_confirmToes_12 : decode cL_confirmToes 12 = .ok (.astore_n 3, 1) := by decide +kernel
theorem dL_confirmToes_13 : decode cL_confirmToes 13 = .ok (.iconst 1, 1) := by decide +kernel
theorem dL_confirmToes_14 : decode cL_confirmToes 14 = .ok (.ireturn, 1) := by decide +kernel
theorem dL_confirmToes_15 : decode cL_confirmToes 15 = .ok (.astore_n 3, 1) := by decide +kernel
theorem dL_confirmToes_16 : decode cL_confirmToes 16 = .ok (.iconst 2, 1) := by decide +kernel
theorem dL_confirmToes_17 : decode cL_confirmToes 17 = .ok (.ireturn, 1) := by decide +kernel
theorem dL_confirmToes_18 : decode cL_confirmToes 18 = .ok (.iconst 0, 1) := by decide +kernel
theorem dL_confirmToes_19 : decode cL_confirmToes 19 = .ok (.ireturn, 1) := by decide +kernel
set_option maxRecDepth 20000 in
theorem ggL_setTide_X9_setTide : GoodIn wsL_setTide wsX9_setTide := goodIn_ca (goodIn_ca (goodIn_r _ [7, 8, 9, 10, 11, 6, 12, 13, 14, 15, 16, 17, 18, 19, 20, 21, 22, 23, 24, 25, 26, 27, 28, 29, 30, 31, 32, 33, 34, 35, 36, 37, 38, 39, 40, 41, 42, 43, 44, 45, 46, 47, 48, 49, 50, 51, 52, 53, 54, 55, 56, 57, 58, 59, 60, 61, 62, 63, 64, 65, 66, 67, 68, 69, 70, 71, 72, 73, 74, 75, 76, 77, 78, 79, 80, 81, 82, 83, 84, 85, 86, 87, 88, 89, 90, 91, 92, 93, 94, 95, 96, 97, 98, 99, 100, 101, 102, 103, 104, 105, 106, 107, 108, 109, 110, 111, 112, 113, 114, 115, 116, 117, 118, 119, 120, 121, 122, 123, 124, 125, 126, 127, 128, 129, 130, 131] (by decide +kernel) (by decide +kernel)) (goodIn_sub (fun _ h => List.mem_cons_of_mem _ (List.mem_append_left _ (List.mem_append_right _ h))) (by decide +kernel))) (goodIn_sub (fun _ h => List.mem_cons_of_mem _ (List.mem_append_right _ h)) (by decide +kernel))
set_option maxRecDepth 20000 in
theorem gL_setTide_X9_setTide : GoodIn wsL_setTide (wsV RL 43 RX9 yX9_setTide wsX9_setTide) := goodIn_app (goodIn_of _ (by decide +kernel)) ggL_setTide_X9_setTide
theorem dL_setTide_0 : decode cL_setTide 0 = .ok (.aload_n 2, 1) := by decide +kernel
theorem dL_setTide_1 : decode cL_setTide 1 = .ok (.iconst 0, 1) := by decide +kernel
theorem dL_setTide_2 : decode cL_setTide 2 = .ok (.aload_n 0, 1) := by decide +kernel
theorem dL_setTide_3 : decode cL_setTide 3 = .ok (.iload_n 1, 1) := by decide +kernel
theorem dL_setTide_4 : decode cL_setTide 4 = .ok (.invokevirtual 43, 3) := by decide +kernel
theorem dL_setTide_7 : decode cL_setTide 7 = .ok (.i2l, 1) := by decide +kernel
theorem dL_setTide_8 : decode cL_setTide 8 = .ok (.lastore, 1) := by decide +kernel
theorem dL_setTide_9 : decode cL_setTide 9 = .ok (.goto 9, 3) := by decide +kernel
theorem dL_setTide_12 : decode cL_setTide 12 = .ok (.astore_n 3, 1) := by decide +kernel
theorem dL_setTide_13 : decode cL_setTide 13 = .ok (.iconst 1, 1) := by decide +kernel
theorem dL_setTide_14 : decode cL_setTide 14 = .ok (.ireturn, 1) := by decide +kernel
theorem dL_setTide_15 : decode cL_setTide 15 = .ok (.astore_n 3, 1) := by decide +kernel
theorem dL_setTide_16 : decode cL_setTide 16 = .ok (.iconst 2, 1) := by decide +kernel
theorem dL_setTide_17 : decode cL_setTide 17 = .ok (.ireturn, 1) := by decide +kernel
theorem dL_setTide_18 : decode cL_setTide 18 = .ok (.iconst 0, 1) := by decide +kernel
theorem dL_setTide_19 : decode cL_setTide 19 = .ok (.ireturn, 1) := by decide +kernel
set_option maxRecDepth 20000 in
theorem ggL_trackOf_X9_trackOf : GoodIn wsL_trackOf wsX9_trackOf := goodIn_ca (goodIn_r _ [6, 7, 8, 9, 10, 5, 11, 12, 13, 14, 15, 16, 17, 18, 19, 20, 21, 22, 23, 24, 25, 26, 27, 28, 29, 30, 31, 32, 33, 34, 35, 36, 37, 38, 39, 40, 41, 42, 43, 44, 45, 46, 47, 48, 49] (by decide +kernel) (by decide +kernel)) (goodIn_sub (fun _ h => List.mem_cons_of_mem _ (List.mem_append_right _ h)) (by decide +kernel))
set_option maxRecDepth 20000 in
theorem gL_trackOf_X9_trackOf : GoodIn wsL_trackOf (wsV RL 46 RX9 yX9_trackOf wsX9_trackOf) := goodIn_app (goodIn_of _ (by decide +kernel)) ggL_trackOf_X9_trackOf
theorem dL_trackOf_0 : decode cL_trackOf 0 = .ok (.aload_n 2, 1) := by decide +kernel
theorem dL_trackOf_1 : decode cL_trackOf 1 = .ok (.iconst 0, 1) := by decide +kernel
theorem dL_trackOf_2 : decode cL_trackOf 2 = .ok (.aload_n 0, 1) := by decide +kernel
theorem dL_trackOf_3 : decode cL_trackOf 3 = .ok (.iload_n 1, 1) := by decide +kernel
theorem dL_trackOf_4 : decode cL_trackOf 4 = .ok (.invokevirtual 46, 3) := by decide +kernel
theorem dL_trackOf_7 : decode cL_trackOf 7 = .ok (.i2l, 1) := by decide +kernel
theorem dL_trackOf_8 : decode cL_trackOf 8 = .ok (.lastore, 1) := by decide +kernel
theorem dL_trackOf_9 : decode cL_trackOf 9 = .ok (.goto 6, 3) := by decide +kernel
theorem dL_trackOf_12 : decode cL_trackOf 12 = .ok (.astore_n 3, 1) := by decide +kernel
theorem dL_trackOf_13 : decode cL_trackOf 13 = .ok (.iconst 1, 1) := by decide +kernel
theorem dL_trackOf_14 : decode cL_trackOf 14 = .ok (.ireturn, 1) := by decide +kernel
theorem dL_trackOf_15 : decode cL_trackOf 15 = .ok (.iconst 0, 1) := by decide +kernel
theorem dL_trackOf_16 : decode cL_trackOf 16 = .ok (.ireturn, 1) := by decide +kernel
set_option maxRecDepth 20000 in
theorem ggL_timeOf_X9_timeOf : GoodIn wsL_timeOf wsX9_timeOf := goodIn_ca (goodIn_r _ [6, 7, 8, 9, 10, 5, 11, 12, 13, 14, 15, 16, 17, 18, 19, 20, 21, 22, 23, 24, 25, 26, 27, 28, 29, 30, 31, 32, 33, 34, 35, 36, 37, 38, 39, 40, 41, 42, 43, 44, 45, 46, 47, 48, 49] (by decide +kernel) (by decide +kernel)) (goodIn_sub (fun _ h => List.mem_cons_of_mem _ (List.mem_append_right _ h)) (by decide +kernel))
set_option maxRecDepth 20000 in
theorem gL_timeOf_X9_timeOf : GoodIn wsL_timeOf (wsV RL 49 RX9 yX9_timeOf wsX9_timeOf) := goodIn_app (goodIn_of _ (by decide +kernel)) ggL_timeOf_X9_timeOf
theorem dL_timeOf_0 : decode cL_timeOf 0 = .ok (.aload_n 2, 1) := by decide +kernel
theorem dL_timeOf_1 : decode cL_timeOf 1 = .ok (.iconst 0, 1) := by decide +kernel
theorem dL_timeOf_2 : decode cL_timeOf 2 = .ok (.aload_n 0, 1) := by decide +kernel
theorem dL_timeOf_3 : decode cL_timeOf 3 = .ok (.iload_n 1, 1) := by decide +kernel
theorem dL_timeOf_4 : decode cL_timeOf 4 = .ok (.invokevirtual 49, 3) := by decide +kernel
theorem dL_timeOf_7 : decode cL_timeOf 7 = .ok (.i2l, 1) := by decide +kernel
theorem dL_timeOf_8 : decode cL_timeOf 8 = .ok (.lastore, 1) := by decide +kernel
theorem dL_timeOf_9 : decode cL_timeOf 9 = .ok (.goto 6, 3) := by decide +kernel
theorem dL_timeOf_12 : decode cL_timeOf 12 = .ok (.astore_n 3, 1) := by decide +kernel
theorem dL_timeOf_13 : decode cL_timeOf 13 = .ok (.iconst 1, 1) := by decide +kernel
theorem dL_timeOf_14 : decode cL_timeOf 14 = .ok (.ireturn, 1) := by decide +kernel
theorem dL_timeOf_15 : decode cL_timeOf 15 = .ok (.iconst 0, 1) := by decide +kernel
theorem dL_timeOf_16 : decode cL_timeOf 16 = .ok (.ireturn, 1) := by decide +kernel
set_option maxRecDepth 20000 in
theorem ggL_rowOf_X9_rowOf : GoodIn wsL_rowOf wsX9_rowOf := goodIn_ca (goodIn_r _ [6, 7, 8, 9, 10, 5, 11, 12, 13, 14, 15, 16, 17, 18, 19, 20, 21, 22, 23, 24, 25, 26, 27, 28, 29, 30, 31, 32, 33, 34, 35, 36, 37, 38, 39, 40, 41, 42, 43, 44, 45, 46, 47, 48, 49] (by decide +kernel) (by decide +kernel)) (goodIn_sub (fun _ h => List.mem_cons_of_mem _ (List.mem_append_right _ h)) (by decide +kernel))
set_option maxRecDepth 20000 in
theorem gL_rowOf_X9_rowOf : GoodIn wsL_rowOf (wsV RL 52 RX9 yX9_rowOf wsX9_rowOf) := goodIn_app (goodIn_of _ (by decide +kernel)) ggL_rowOf_X9_rowOf
theorem dL_rowOf_0 : decode cL_rowOf 0 = .ok (.aload_n 2, 1) := by decide +kernel
theorem dL_rowOf_1 : decode cL_rowOf 1 = .ok (.iconst 0, 1) := by decide +kernel
theorem dL_rowOf_2 : decode cL_rowOf 2 = .ok (.aload_n 0, 1) := by decide +kernel
theorem dL_rowOf_3 : decode cL_rowOf 3 = .ok (.iload_n 1, 1) := by decide +kernel
theorem dL_rowOf_4 : decode cL_rowOf 4 = .ok (.invokevirtual 52, 3) := by decide +kernel
theorem dL_rowOf_7 : decode cL_rowOf 7 = .ok (.i2l, 1) := by decide +kernel
theorem dL_rowOf_8 : decode cL_rowOf 8 = .ok (.lastore, 1) := by decide +kernel
theorem dL_rowOf_9 : decode cL_rowOf 9 = .ok (.goto 6, 3) := by decide +kernel
theorem dL_rowOf_12 : decode cL_rowOf 12 = .ok (.astore_n 3, 1) := by decide +kernel
theorem dL_rowOf_13 : decode cL_rowOf 13 = .ok (.iconst 1, 1) := by decide +kernel
theorem dL_rowOf_14 : decode cL_rowOf 14 = .ok (.ireturn, 1) := by decide +kernel
theorem dL_rowOf_15 : decode cL_rowOf 15 = .ok (.iconst 0, 1) := by decide +kernel
theorem dL_rowOf_16 : decode cL_rowOf 16 = .ok (.ireturn, 1) := by decide +kernel
set_option maxRecDepth 20000 in
theorem ggL_columnOf_X9_columnOf : GoodIn wsL_columnOf wsX9_columnOf := goodIn_ca (goodIn_r _ [6, 7, 8, 9, 10, 5, 11, 12, 13, 14, 15, 16, 17, 18, 19, 20, 21, 22, 23, 24, 25, 26, 27, 28, 29, 30, 31, 32, 33, 34, 35, 36, 37, 38, 39, 40, 41, 42, 43, 44, 45, 46, 47, 48, 49] (by decide +kernel) (by decide +kernel)) (goodIn_sub (fun _ h => List.mem_cons_of_mem _ (List.mem_append_right _ h)) (by decide +kernel))
set_option maxRecDepth 20000 in
theorem gL_columnOf_X9_columnOf : GoodIn wsL_columnOf (wsV RL 55 RX9 yX9_columnOf wsX9_columnOf) := goodIn_app (goodIn_of _ (by decide +kernel)) ggL_columnOf_X9_columnOf
theorem dL_columnOf_0 : decode cL_columnOf 0 = .ok (.aload_n 2, 1) := by decide +kernel
theorem dL_columnOf_1 : decode cL_columnOf 1 = .ok (.iconst 0, 1) := by decide +kernel
theorem dL_columnOf_2 : decode cL_columnOf 2 = .ok (.aload_n 0, 1) := by decide +kernel
theorem dL_columnOf_3 : decode cL_columnOf 3 = .ok (.iload_n 1, 1) := by decide +kernel
theorem dL_columnOf_4 : decode cL_columnOf 4 = .ok (.invokevirtual 55, 3) := by decide +kernel
theorem dL_columnOf_7 : decode cL_columnOf 7 = .ok (.i2l, 1) := by decide +kernel
theorem dL_columnOf_8 : decode cL_columnOf 8 = .ok (.lastore, 1) := by decide +kernel
theorem dL_columnOf_9 : decode cL_columnOf 9 = .ok (.goto 6, 3) := by decide +kernel
theorem dL_columnOf_12 : decode cL_columnOf 12 = .ok (.astore_n 3, 1) := by decide +kernel
theorem dL_columnOf_13 : decode cL_columnOf 13 = .ok (.iconst 1, 1) := by decide +kernel
theorem dL_columnOf_14 : decode cL_columnOf 14 = .ok (.ireturn, 1) := by decide +kernel
theorem dL_columnOf_15 : decode cL_columnOf 15 = .ok (.iconst 0, 1) := by decide +kernel
theorem dL_columnOf_16 : decode cL_columnOf 16 = .ok (.ireturn, 1) := by decide +kernel
set_option maxRecDepth 20000 in
theorem ggL_isLeft_X9_isLeft : GoodIn wsL_isLeft wsX9_isLeft := goodIn_ca (goodIn_r _ [6, 7, 8, 9, 10, 5, 11, 12, 13, 14, 15, 16, 17, 18, 19, 20, 21, 22, 23, 24, 25, 26, 27, 28, 29, 30, 31, 32, 33, 34, 35, 36, 37, 38, 39, 40, 41, 42, 43, 44, 45, 46, 47, 48, 49] (by decide +kernel) (by decide +kernel)) (goodIn_sub (fun _ h => List.mem_cons_of_mem _ (List.mem_append_right _ h)) (by decide +kernel))
set_option maxRecDepth 20000 in
theorem gL_isLeft_X9_isLeft : GoodIn wsL_isLeft (wsV RL 58 RX9 yX9_isLeft wsX9_isLeft) := goodIn_app (goodIn_of _ (by decide +kernel)) ggL_isLeft_X9_isLeft
theorem dL_isLeft_0 : decode cL_isLeft 0 = .ok (.aload_n 2, 1) := by decide +kernel
theorem dL_isLeft_1 : decode cL_isLeft 1 = .ok (.iconst 0, 1) := by decide +kernel
theorem dL_isLeft_2 : decode cL_isLeft 2 = .ok (.aload_n 0, 1) := by decide +kernel
theorem dL_isLeft_3 : decode cL_isLeft 3 = .ok (.iload_n 1, 1) := by decide +kernel
theorem dL_isLeft_4 : decode cL_isLeft 4 = .ok (.invokevirtual 58, 3) := by decide +kernel
theorem dL_isLeft_7 : decode cL_isLeft 7 = .ok (.ifCond .eq 7, 3) := by decide +kernel
theorem dL_isLeft_10 : decode cL_isLeft 10 = .ok (.lconst 1, 1) := by decide +kernel
theorem dL_isLeft_11 : decode cL_isLeft 11 = .ok (.goto 4, 3) := by decide +kernel
theorem dL_isLeft_14 : decode cL_isLeft 14 = .ok (.lconst 0, 1) := by decide +kernel
theorem dL_isLeft_15 : decode cL_isLeft 15 = .ok (.lastore, 1) := by decide +kernel
theorem dL_isLeft_16 : decode cL_isLeft 16 = .ok (.goto 6, 3) := by decide +kernel
theorem dL_isLeft_19 : decode cL_isLeft 19 = .ok (.astore_n 3, 1) := by decide +kernel
theorem dL_isLeft_20 : decode cL_isLeft 20 = .ok (.iconst 1, 1) := by decide +kernel
theorem dL_isLeft_21 : decode cL_isLeft 21 = .ok (.ireturn, 1) := by decide +kernel
theorem dL_isLeft_22 : decode cL_isLeft 22 = .ok (.iconst 0, 1) := by decide +kernel
theorem dL_isLeft_23 : decode cL_isLeft 23 = .ok (.ireturn, 1) := by decide +kernel
set_option maxRecDepth 20000 in
theorem ggL_depthOf_X9_depthOf : GoodIn wsL_depthOf wsX9_depthOf := goodIn_ca (goodIn_r _ [6, 7, 8, 9, 10, 5, 11, 12, 13, 14, 15, 16, 17, 18, 19, 20, 21, 22, 23, 24, 25, 26, 27, 28, 29, 30, 31, 32, 33, 34, 35, 36, 37, 38, 39, 40, 41, 42, 43, 44, 45, 46, 47, 48, 49] (by decide +kernel) (by decide +kernel)) (goodIn_sub (fun _ h => List.mem_cons_of_mem _ (List.mem_append_right _ h)) (by decide +kernel))
set_option maxRecDepth 20000 in
theorem gL_depthOf_X9_depthOf : GoodIn wsL_depthOf (wsV RL 61 RX9 yX9_depthOf wsX9_depthOf) := goodIn_app (goodIn_of _ (by decide +kernel)) ggL_depthOf_X9_depthOf
theorem dL_depthOf_0 : decode cL_depthOf 0 = .ok (.aload_n 2, 1) := by decide +kernel
theorem dL_depthOf_1 : decode cL_depthOf 1 = .ok (.iconst 0, 1) := by decide +kernel
theorem dL_depthOf_2 : decode cL_depthOf 2 = .ok (.aload_n 0, 1) := by decide +kernel
theorem dL_depthOf_3 : decode cL_depthOf 3 = .ok (.iload_n 1, 1) := by decide +kernel
theorem dL_depthOf_4 : decode cL_depthOf 4 = .ok (.invokevirtual 61, 3) := by decide +kernel
theorem dL_depthOf_7 : decode cL_depthOf 7 = .ok (.i2l, 1) := by decide +kernel
theorem dL_depthOf_8 : decode cL_depthOf 8 = .ok (.lastore, 1) := by decide +kernel
theorem dL_depthOf_9 : decode cL_depthOf 9 = .ok (.goto 6, 3) := by decide +kernel
theorem dL_depthOf_12 : decode cL_depthOf 12 = .ok (.astore_n 3, 1) := by decide +kernel
theorem dL_depthOf_13 : decode cL_depthOf 13 = .ok (.iconst 1, 1) := by decide +kernel
theorem dL_depthOf_14 : decode cL_depthOf 14 = .ok (.ireturn, 1) := by decide +kernel
theorem dL_depthOf_15 : decode cL_depthOf 15 = .ok (.iconst 0, 1) := by decide +kernel
theorem dL_depthOf_16 : decode cL_depthOf 16 = .ok (.ireturn, 1) := by decide +kernel
set_option maxRecDepth 20000 in
theorem ggL_doubtsOf_X9_doubtsOf : GoodIn wsL_doubtsOf wsX9_doubtsOf := goodIn_ca (goodIn_r _ [6, 7, 8, 9, 10, 5, 11, 12, 13, 14, 15, 16, 17, 18, 19, 20, 21, 22, 23, 24, 25, 26, 27, 28, 29, 30, 31, 32, 33, 34, 35, 36, 37, 38, 39, 40, 41, 42, 43, 44, 45, 46, 47, 48, 49] (by decide +kernel) (by decide +kernel)) (goodIn_sub (fun _ h => List.mem_cons_of_mem _ (List.mem_append_right _ h)) (by decide +kernel))
set_option maxRecDepth 20000 in
theorem gL_doubtsOf_X9_doubtsOf : GoodIn wsL_doubtsOf (wsV RL 64 RX9 yX9_doubtsOf wsX9_doubtsOf) := goodIn_app (goodIn_of _ (by decide +kernel)) ggL_doubtsOf_X9_doubtsOf
theorem dL_doubtsOf_0 : decode cL_doubtsOf 0 = .ok (.aload_n 2, 1) := by decide +kernel
theorem dL_doubtsOf_1 : decode cL_doubtsOf 1 = .ok (.iconst 0, 1) := by decide +kernel
theorem dL_doubtsOf_2 : decode cL_doubtsOf 2 = .ok (.aload_n 0, 1) := by decide +kernel
theorem dL_doubtsOf_3 : decode cL_doubtsOf 3 = .ok (.iload_n 1, 1) := by decide +kernel
theorem dL_doubtsOf_4 : decode cL_doubtsOf 4 = .ok (.invokevirtual 64, 3) := by decide +kernel
theorem dL_doubtsOf_7 : decode cL_doubtsOf 7 = .ok (.i2l, 1) := by decide +kernel
theorem dL_doubtsOf_8 : decode cL_doubtsOf 8 = .ok (.lastore, 1) := by decide +kernel
theorem dL_doubtsOf_9 : decode cL_doubtsOf 9 = .ok (.goto 6, 3) := by decide +kernel
theorem dL_doubtsOf_12 : decode cL_doubtsOf 12 = .ok (.astore_n 3, 1) := by decide +kernel
theorem dL_doubtsOf_13 : decode cL_doubtsOf 13 = .ok (.iconst 1, 1) := by decide +kernel
theorem dL_doubtsOf_14 : decode cL_doubtsOf 14 = .ok (.ireturn, 1) := by decide +kernel
theorem dL_doubtsOf_15 : decode cL_doubtsOf 15 = .ok (.iconst 0, 1) := by decide +kernel
theorem dL_doubtsOf_16 : decode cL_doubtsOf 16 = .ok (.ireturn, 1) := by decide +kernel
set_option maxRecDepth 20000 in
theorem ggL_confidence_X9_confidence : GoodIn wsL_confidence wsX9_confidence := goodIn_ca (goodIn_r _ [6, 7, 8, 9, 10, 5, 11, 12, 13, 14, 15, 16, 17, 18, 19, 20, 21, 22, 23, 24, 25, 26, 27, 28, 29, 30, 31, 32, 33, 34, 35, 36, 37, 38, 39, 40, 41, 42, 43, 44, 45, 46, 47, 48, 49] (by decide +kernel) (by decide +kernel)) (goodIn_sub (fun _ h => List.mem_cons_of_mem _ (List.mem_append_right _ h)) (by decide +kernel))
set_option maxRecDepth 20000 in
theorem gL_confidence_X9_confidence : GoodIn wsL_confidence (wsV RL 67 RX9 yX9_confidence wsX9_confidence) := goodIn_app (goodIn_of _ (by decide +kernel)) ggL_confidence_X9_confidence
theorem dL_confidence_0 : decode cL_confidence 0 = .ok (.aload_n 2, 1) := by decide +kernel
theorem dL_confidence_1 : decode cL_confidence 1 = .ok (.iconst 0, 1) := by decide +kernel
theorem dL_confidence_2 : decode cL_confidence 2 = .ok (.aload_n 0, 1) := by decide +kernel
theorem dL_confidence_3 : decode cL_confidence 3 = .ok (.iload_n 1, 1) := by decide +kernel
theorem dL_confidence_4 : decode cL_confidence 4 = .ok (.invokevirtual 67, 3) := by decide +kernel
theorem dL_confidence_7 : decode cL_confidence 7 = .ok (.dastore, 1) := by decide +kernel
theorem dL_confidence_8 : decode cL_confidence 8 = .ok (.goto 6, 3) := by decide +kernel
theorem dL_confidence_11 : decode cL_confidence 11 = .ok (.astore_n 3, 1) := by decide +kernel
theorem dL_confidence_12 : decode cL_confidence 12 = .ok (.iconst 1, 1) := by decide +kernel
theorem dL_confidence_13 : decode cL_confidence 13 = .ok (.ireturn, 1) := by decide +kernel
theorem dL_confidence_14 : decode cL_confidence 14 = .ok (.iconst 0, 1) := by decide +kernel
theorem dL_confidence_15 : decode cL_confidence 15 = .ok (.ireturn, 1) := by decide +kernel
set_option maxRecDepth 20000 in
theorem ggL_isLate_X9_isLate : GoodIn wsL_isLate wsX9_isLate := goodIn_ca (goodIn_r _ [6, 7, 8, 9, 10, 5, 11, 12, 13, 14, 15, 16, 17, 18, 19, 20, 21, 22, 23, 24, 25, 26, 27, 28, 29, 30, 31, 32, 33, 34, 35, 36, 37, 38, 39, 40, 41, 42, 43, 44, 45, 46, 47, 48, 49] (by decide +kernel) (by decide +kernel)) (goodIn_sub (fun _ h => List.mem_cons_of_mem _ (List.mem_append_right _ h)) (by decide +kernel))
set_option maxRecDepth 20000 in
theorem gL_isLate_X9_isLate : GoodIn wsL_isLate (wsV RL 71 RX9 yX9_isLate wsX9_isLate) := goodIn_app (goodIn_of _ (by decide +kernel)) ggL_isLate_X9_isLate
theorem dL_isLate_0 : decode cL_isLate 0 = .ok (.aload_n 2, 1) := by decide +kernel
theorem dL_isLate_1 : decode cL_isLate 1 = .ok (.iconst 0, 1) := by decide +kernel
theorem dL_isLate_2 : decode cL_isLate 2 = .ok (.aload_n 0, 1) := by decide +kernel
theorem dL_isLate_3 : decode cL_isLate 3 = .ok (.iload_n 1, 1) := by decide +kernel
theorem dL_isLate_4 : decode cL_isLate 4 = .ok (.invokevirtual 71, 3) := by decide +kernel
theorem dL_isLate_7 : decode cL_isLate 7 = .ok (.ifCond .eq 7, 3) := by decide +kernel
theorem dL_isLate_10 : decode cL_isLate 10 = .ok (.lconst 1, 1) := by decide +kernel
theorem dL_isLate_11 : decode cL_isLate 11 = .ok (.goto 4, 3) := by decide +kernel
theorem dL_isLate_14 : decode cL_isLate 14 = .ok (.lconst 0, 1) := by decide +kernel
theorem dL_isLate_15 : decode cL_isLate 15 = .ok (.lastore, 1) := by decide +kernel
theorem dL_isLate_16 : decode cL_isLate 16 = .ok (.goto 6, 3) := by decide +kernel
theorem dL_isLate_19 : decode cL_isLate 19 = .ok (.astore_n 3, 1) := by decide +kernel
theorem dL_isLate_20 : decode cL_isLate 20 = .ok (.iconst 1, 1) := by decide +kernel
theorem dL_isLate_21 : decode cL_isLate 21 = .ok (.ireturn, 1) := by decide +kernel
theorem dL_isLate_22 : decode cL_isLate 22 = .ok (.iconst 0, 1) := by decide +kernel
theorem dL_isLate_23 : decode cL_isLate 23 = .ok (.ireturn, 1) := by decide +kernel
set_option maxRecDepth 20000 in
theorem ggL_previousPrint_X9_previousPrint : GoodIn wsL_previousPrint wsX9_previousPrint := goodIn_ca (goodIn_ca (goodIn_r _ [7, 8, 9, 10, 11, 12, 6, 13, 14, 15, 16, 17, 18, 19, 20, 21, 22, 23, 24, 25, 26, 27, 28, 29, 30, 31, 32, 33, 34, 35, 36, 37, 38, 39, 40, 41, 42, 43, 44, 45, 46, 47, 48, 49, 50, 51, 52, 53, 54, 55, 56, 57, 58, 59, 60, 61, 62, 63, 64, 65, 66, 67, 68] (by decide +kernel) (by decide +kernel)) (goodIn_sub (fun _ h => List.mem_cons_of_mem _ (List.mem_append_left _ (List.mem_append_right _ h))) (by decide +kernel))) (goodIn_sub (fun _ h => List.mem_cons_of_mem _ (List.mem_append_right _ h)) (by decide +kernel))
set_option maxRecDepth 20000 in
theorem gL_previousPrint_X9_previousPrint : GoodIn wsL_previousPrint (wsV RL 74 RX9 yX9_previousPrint wsX9_previousPrint) := goodIn_app (goodIn_of _ (by decide +kernel)) ggL_previousPrint_X9_previousPrint
theorem dL_previousPrint_0 : decode cL_previousPrint 0 = .ok (.aload_n 2, 1) := by decide +kernel
theorem dL_previousPrint_1 : decode cL_previousPrint 1 = .ok (.iconst 0, 1) := by decide +kernel
theorem dL_previousPrint_2 : decode cL_previousPrint 2 = .ok (.aload_n 0, 1) := by decide +kernel
theorem dL_previousPrint_3 : decode cL_previousPrint 3 = .ok (.iload_n 1, 1) := by decide +kernel
theorem dL_previousPrint_4 : decode cL_previousPrint 4 = .ok (.invokevirtual 74, 3) := by decide +kernel
theorem dL_previousPrint_7 : decode cL_previousPrint 7 = .ok (.i2l, 1) := by decide +kernel
theorem dL_previousPrint_8 : decode cL_previousPrint 8 = .ok (.lastore, 1) := by decide +kernel
theorem dL_previousPrint_9 : decode cL_previousPrint 9 = .ok (.goto 9, 3) := by decide +kernel
theorem dL_previousPrint_12 : decode cL_previousPrint 12 = .ok (.astore_n 3, 1) := by decide +kernel
theorem dL_previousPrint_13 : decode cL_previousPrint 13 = .ok (.iconst 1, 1) := by decide +kernel
theorem dL_previousPrint_14 : decode cL_previousPrint 14 = .ok (.ireturn, 1) := by decide +kernel
theorem dL_previousPrint_15 : decode cL_previousPrint 15 = .ok (.astore_n 3, 1) := by decide +kernel
theorem dL_previousPrint_16 : decode cL_previousPrint 16 = .ok (.iconst 2, 1) := by decide +kernel
theorem dL_previousPrint_17 : decode cL_previousPrint 17 = .ok (.ireturn, 1) := by decide +kernel
theorem dL_previousPrint_18 : decode cL_previousPrint 18 = .ok (.iconst 0, 1) := by decide +kernel
theorem dL_previousPrint_19 : decode cL_previousPrint 19 = .ok (.ireturn, 1) := by decide +kernel
set_option maxRecDepth 20000 in
theorem ggL_nextPrint_X9_nextPrint : GoodIn wsL_nextPrint wsX9_nextPrint := goodIn_ca (goodIn_ca (goodIn_r _ [7, 8, 9, 10, 11, 12, 6, 13, 14, 15, 16, 17, 18, 19, 20, 21, 22, 23, 24, 25, 26, 27, 28, 29, 30, 31, 32, 33, 34, 35, 36, 37, 38, 39, 40, 41, 42, 43, 44, 45, 46, 47, 48, 49, 50, 51, 52, 53, 54, 55, 56, 57, 58, 59, 60, 61, 62, 63, 64, 65, 66, 67, 68] (by decide +kernel) (by decide +kernel)) (goodIn_sub (fun _ h => List.mem_cons_of_mem _ (List.mem_append_left _ (List.mem_append_right _ h))) (by decide +kernel))) (goodIn_sub (fun _ h => List.mem_cons_of_mem _ (List.mem_append_right _ h)) (by decide +kernel))
set_option maxRecDepth 20000 in
theorem gL_nextPrint_X9_nextPrint : GoodIn wsL_nextPrint (wsV RL 79 RX9 yX9_nextPrint wsX9_nextPrint) := goodIn_app (goodIn_of _ (by decide +kernel)) ggL_nextPrint_X9_nextPrint
theorem dL_nextPrint_0 : decode cL_nextPrint 0 = .ok (.aload_n 2, 1) := by decide +kernel
theorem dL_nextPrint_1 : decode cL_nextPrint 1 = .ok (.iconst 0, 1) := by decide +kernel
theorem dL_nextPrint_2 : decode cL_nextPrint 2 = .ok (.aload_n 0, 1) := by decide +kernel
theorem dL_nextPrint_3 : decode cL_nextPrint 3 = .ok (.iload_n 1, 1) := by decide +kernel
theorem dL_nextPrint_4 : decode cL_nextPrint 4 = .ok (.invokevirtual 79, 3) := by decide +kernel
theorem dL_nextPrint_7 : decode cL_nextPrint 7 = .ok (.i2l, 1) := by decide +kernel
theorem dL_nextPrint_8 : decode cL_nextPrint 8 = .ok (.lastore, 1) := by decide +kernel
theorem dL_nextPrint_9 : decode cL_nextPrint 9 = .ok (.goto 9, 3) := by decide +kernel
theorem dL_nextPrint_12 : decode cL_nextPrint 12 = .ok (.astore_n 3, 1) := by decide +kernel
theorem dL_nextPrint_13 : decode cL_nextPrint 13 = .ok (.iconst 1, 1) := by decide +kernel
theorem dL_nextPrint_14 : decode cL_nextPrint 14 = .ok (.ireturn, 1) := by decide +kernel
theorem dL_nextPrint_15 : decode cL_nextPrint 15 = .ok (.astore_n 3, 1) := by decide +kernel
theorem dL_nextPrint_16 : decode cL_nextPrint 16 = .ok (.iconst 2, 1) := by decide +kernel
theorem dL_nextPrint_17 : decode cL_nextPrint 17 = .ok (.ireturn, 1) := by decide +kernel
theorem dL_nextPrint_18 : decode cL_nextPrint 18 = .ok (.iconst 0, 1) := by decide +kernel
theorem dL_nextPrint_19 : decode cL_nextPrint 19 = .ok (.ireturn, 1) := by decide +kernel
set_option maxRecDepth 20000 in
theorem ggL_strideOf_X9_strideOf : GoodIn wsL_strideOf wsX9_strideOf := goodIn_ca (goodIn_ca (goodIn_r _ [7, 8, 9, 10, 11, 12, 13, 6, 14, 15, 16, 17, 18, 19, 20, 21, 22, 23, 24, 25, 26, 27, 28, 29, 30, 31, 32, 33, 34, 35, 36, 37, 38, 39, 40, 41, 42, 43, 44, 45, 46, 47, 48, 49, 50, 51, 52, 53, 54, 55, 56, 57, 58, 59, 60, 61, 62, 63, 64, 65, 66, 67, 68, 69, 70, 71, 72, 73, 74, 75, 76, 77, 78, 79] (by decide +kernel) (by decide +kernel)) (goodIn_sub (fun _ h => List.mem_cons_of_mem _ (List.mem_append_left _ (List.mem_append_right _ h))) (by decide +kernel))) (goodIn_sub (fun _ h => List.mem_cons_of_mem _ (List.mem_append_right _ h)) (by decide +kernel))
set_option maxRecDepth 20000 in
theorem gL_strideOf_X9_strideOf : GoodIn wsL_strideOf (wsV RL 82 RX9 yX9_strideOf wsX9_strideOf) := goodIn_app (goodIn_of _ (by decide +kernel)) ggL_strideOf_X9_strideOf
theorem dL_strideOf_0 : decode cL_strideOf 0 = .ok (.aload_n 2, 1) := by decide +kernel
theorem dL_strideOf_1 : decode cL_strideOf 1 = .ok (.iconst 0, 1) := by decide +kernel
theorem dL_strideOf_2 : decode cL_strideOf 2 = .ok (.aload_n 0, 1) := by decide +kernel
theorem dL_strideOf_3 : decode cL_strideOf 3 = .ok (.iload_n 1, 1) := by decide +kernel
theorem dL_strideOf_4 : decode cL_strideOf 4 = .ok (.invokevirtual 82, 3) := by decide +kernel
theorem dL_strideOf_7 : decode cL_strideOf 7 = .ok (.i2l, 1) := by decide +kernel
theorem dL_strideOf_8 : decode cL_strideOf 8 = .ok (.lastore, 1) := by decide +kernel
theorem dL_strideOf_9 : decode cL_strideOf 9 = .ok (.goto 9, 3) := by decide +kernel
theorem dL_strideOf_12 : decode cL_strideOf 12 = .ok (.astore_n 3, 1) := by decide +kernel
theorem dL_strideOf_13 : decode cL_strideOf 13 = .ok (.iconst 1, 1) := by decide +kernel
theorem dL_strideOf_14 : decode cL_strideOf 14 = .ok (.ireturn, 1) := by decide +kernel
theorem dL_strideOf_15 : decode cL_strideOf 15 = .ok (.astore_n 3, 1) := by decide +kernel
theorem dL_strideOf_16 : decode cL_strideOf 16 = .ok (.iconst 2, 1) := by decide +kernel
theorem dL_strideOf_17 : decode cL_strideOf 17 = .ok (.ireturn, 1) := by decide +kernel
theorem dL_strideOf_18 : decode cL_strideOf 18 = .ok (.iconst 0, 1) := by decide +kernel
theorem dL_strideOf_19 : decode cL_strideOf 19 = .ok (.ireturn, 1) := by decide +kernel
set_option maxRecDepth 20000 in
theorem ggL_hasStrideError_X9_hasStrideError : GoodIn wsL_hasStrideError wsX9_hasStrideError := goodIn_ca (goodIn_r _ [6, 7, 8, 9, 10, 5, 11, 12, 13, 14, 15, 16, 17, 18, 19, 20, 21, 22, 23, 24, 25, 26, 27, 28, 29, 30, 31, 32, 33, 34, 35, 36, 37, 38, 39, 40, 41, 42, 43, 44, 45, 46, 47, 48, 49, 50, 51, 52, 53, 54, 55, 56, 57, 58, 59, 60, 61, 62, 63, 64, 65, 66, 67, 68, 69, 70, 71, 72, 73, 74, 75, 76, 77, 78, 79, 80, 81, 82, 83, 84, 85, 86, 87, 88, 89, 90, 91, 92, 93, 94, 95, 96, 97] (by decide +kernel) (by decide +kernel)) (goodIn_sub (fun _ h => List.mem_cons_of_mem _ (List.mem_append_right _ h)) (by decide +kernel))
set_option maxRecDepth 20000 in
theorem gL_hasStrideError_X9_hasStrideError : GoodIn wsL_hasStrideError (wsV RL 85 RX9 yX9_hasStrideError wsX9_hasStrideError) := goodIn_app (goodIn_of _ (by decide +kernel)) ggL_hasStrideError_X9_hasStrideError
theorem dL_hasStrideError_0 : decode cL_hasStrideError 0 = .ok (.aload_n 2, 1) := by decide +kernel
theorem dL_hasStrideError_1 : decode cL_hasStrideError 1 = .ok (.iconst 0, 1) := by decide +kernel
theorem dL_hasStrideError_2 : decode cL_hasStrideError 2 = .ok (.aload_n 0, 1) := by decide +kernel
theorem dL_hasStrideError_3 : decode cL_hasStrideError 3 = .ok (.iload_n 1, 1) := by decide +kernel
theorem dL_hasStrideError_4 : decode cL_hasStrideError 4 = .ok (.invokevirtual 85, 3) := by decide +kernel
theorem dL_hasStrideError_7 : decode cL_hasStrideError 7 = .ok (.ifCond .eq 7, 3) := by decide +kernel
theorem dL_hasStrideError_10 : decode cL_hasStrideError 10 = .ok (.lconst 1, 1) := by decide +kernel
theorem dL_hasStrideError_11 : decode cL_hasStrideError 11 = .ok (.goto 4, 3) := by decide +kernel
theorem dL_hasStrideError_14 : decode cL_hasStrideError 14 = .ok (.lconst 0, 1) := by decide +kernel
theorem dL_hasStrideError_15 : decode cL_hasStrideError 15 = .ok (.lastore, 1) := by decide +kernel
theorem dL_hasStrideError_16 : decode cL_hasStrideError 16 = .ok (.goto 6, 3) := by decide +kernel
theorem dL_hasStrideError_19 : decode cL_hasStrideError 19 = .ok (.astore_n 3, 1) := by decide +kernel
theorem dL_hasStrideError_20 : decode cL_hasStrideError 20 = .ok (.iconst 1, 1) := by decide +kernel
theorem dL_hasStrideError_21 : decode cL_hasStrideError 21 = .ok (.ireturn, 1) := by decide +kernel
theorem dL_hasStrideError_22 : decode cL_hasStrideError 22 = .ok (.iconst 0, 1) := by decide +kernel
theorem dL_hasStrideError_23 : decode cL_hasStrideError 23 = .ok (.ireturn, 1) := by decide +kernel
set_option maxRecDepth 20000 in
theorem ggL_hasFootError_X9_hasFootError : GoodIn wsL_hasFootError wsX9_hasFootError := goodIn_ca (goodIn_r _ [6, 7, 8, 9, 10, 5, 11, 12, 13, 14, 15, 16, 17, 18, 19, 20, 21, 22, 23, 24, 25, 26, 27, 28, 29, 30, 31, 32, 33, 34, 35, 36, 37, 38, 39, 40, 41, 42, 43, 44, 45, 46, 47, 48, 49, 50, 51, 52, 53, 54, 55, 56, 57, 58, 59, 60, 61, 62, 63, 64, 65, 66, 67, 68, 69, 70, 71, 72, 73, 74] (by decide +kernel) (by decide +kernel)) (goodIn_sub (fun _ h => List.mem_cons_of_mem _ (List.mem_append_right _ h)) (by decide +kernel))
set_option maxRecDepth 20000 in
theorem gL_hasFootError_X9_hasFootError : GoodIn wsL_hasFootError (wsV RL 88 RX9 yX9_hasFootError wsX9_hasFootError) := goodIn_app (goodIn_of _ (by decide +kernel)) ggL_hasFootError_X9_hasFootError
theorem dL_hasFootError_0 : decode cL_hasFootError 0 = .ok (.aload_n 2, 1) := by decide +kernel
theorem dL_hasFootError_1 : decode cL_hasFootError 1 = .ok (.iconst 0, 1) := by decide +kernel
theorem dL_hasFootError_2 : decode cL_hasFootError 2 = .ok (.aload_n 0, 1) := by decide +kernel
theorem dL_hasFootError_3 : decode cL_hasFootError 3 = .ok (.iload_n 1, 1) := by decide +kernel
theorem dL_hasFootError_4 : decode cL_hasFootError 4 = .ok (.invokevirtual 88, 3) := by decide +kernel
theorem dL_hasFootError_7 : decode cL_hasFootError 7 = .ok (.ifCond .eq 7, 3) := by decide +kernel
theorem dL_hasFootError_10 : decode cL_hasFootError 10 = .ok (.lconst 1, 1) := by decide +kernel
theorem dL_hasFootError_11 : decode cL_hasFootError 11 = .ok (.goto 4, 3) := by decide +kernel
theorem dL_hasFootError_14 : decode cL_hasFootError 14 = .ok (.lconst 0, 1) := by decide +kernel
theorem dL_hasFootError_15 : decode cL_hasFootError 15 = .ok (.lastore, 1) := by decide +kernel
theorem dL_hasFootError_16 : decode cL_hasFootError 16 = .ok (.goto 6, 3) := by decide +kernel
theorem dL_hasFootError_19 : decode cL_hasFootError 19 = .ok (.astore_n 3, 1) := by decide +kernel
theorem dL_hasFootError_20 : decode cL_hasFootError 20 = .ok (.iconst 1, 1) := by decide +kernel
theorem dL_hasFootError_21 : decode cL_hasFootError 21 = .ok (.ireturn, 1) := by decide +kernel
theorem dL_hasFootError_22 : decode cL_hasFootError 22 = .ok (.iconst 0, 1) := by decide +kernel
theorem dL_hasFootError_23 : decode cL_hasFootError 23 = .ok (.ireturn, 1) := by decide +kernel
set_option maxRecDepth 20000 in
theorem ggL_hasDepthError_X9_hasDepthError : GoodIn wsL_hasDepthError wsX9_hasDepthError := goodIn_ca (goodIn_r _ [6, 7, 8, 9, 10, 5, 11, 12, 13, 14, 15, 16, 17, 18, 19, 20, 21, 22, 23, 24, 25, 26, 27, 28, 29, 30, 31, 32, 33, 34, 35, 36, 37, 38, 39, 40, 41, 42, 43, 44, 45, 46, 47, 48, 49, 50, 51, 52, 53, 54, 55, 56, 57, 58, 59, 60, 61, 62, 63, 64, 65, 66, 67, 68, 69, 70, 71, 72, 73, 74, 75, 76, 77, 78] (by decide +kernel) (by decide +kernel)) (goodIn_sub (fun _ h => List.mem_cons_of_mem _ (List.mem_append_right _ h)) (by decide +kernel))
set_option maxRecDepth 20000 in
theorem gL_hasDepthError_X9_hasDepthError : GoodIn wsL_hasDepthError (wsV RL 91 RX9 yX9_hasDepthError wsX9_hasDepthError) := goodIn_app (goodIn_of _ (by decide +kernel)) ggL_hasDepthError_X9_hasDepthError
theorem dL_hasDepthError_0 : decode cL_hasDepthError 0 = .ok (.aload_n 2, 1) := by decide +kernel
theorem dL_hasDepthError_1 : decode cL_hasDepthError 1 = .ok (.iconst 0, 1) := by decide +kernel
theorem dL_hasDepthError_2 : decode cL_hasDepthError 2 = .ok (.aload_n 0, 1) := by decide +kernel
theorem dL_hasDepthError_3 : decode cL_hasDepthError 3 = .ok (.iload_n 1, 1) := by decide +kernel
theorem dL_hasDepthError_4 : decode cL_hasDepthError 4 = .ok (.invokevirtual 91, 3) := by decide +kernel
theorem dL_hasDepthError_7 : decode cL_hasDepthError 7 = .ok (.ifCond .eq 7, 3) := by decide +kernel
theorem dL_hasDepthError_10 : decode cL_hasDepthError 10 = .ok (.lconst 1, 1) := by decide +kernel
theorem dL_hasDepthError_11 : decode cL_hasDepthError 11 = .ok (.goto 4, 3) := by decide +kernel
theorem dL_hasDepthError_14 : decode cL_hasDepthError 14 = .ok (.lconst 0, 1) := by decide +kernel
theorem dL_hasDepthError_15 : decode cL_hasDepthError 15 = .ok (.lastore, 1) := by decide +kernel
theorem dL_hasDepthError_16 : decode cL_hasDepthError 16 = .ok (.goto 6, 3) := by decide +kernel
theorem dL_hasDepthError_19 : decode cL_hasDepthError 19 = .ok (.astore_n 3, 1) := by decide +kernel
theorem dL_hasDepthError_20 : decode cL_hasDepthError 20 = .ok (.iconst 1, 1) := by decide +kernel
theorem dL_hasDepthError_21 : decode cL_hasDepthError 21 = .ok (.ireturn, 1) := by decide +kernel
theorem dL_hasDepthError_22 : decode cL_hasDepthError 22 = .ok (.iconst 0, 1) := by decide +kernel
theorem dL_hasDepthError_23 : decode cL_hasDepthError 23 = .ok (.ireturn, 1) := by decide +kernel
set_option maxRecDepth 20000 in
theorem ggL_maxStride_X9_maxStride : GoodIn wsL_maxStride wsX9_maxStride := goodIn_ca (goodIn_r _ [6, 7, 8, 9, 10, 5, 11, 12, 13, 14, 15, 16, 17, 18, 19, 20, 21, 22, 23, 24, 25, 26, 27, 28, 29, 30, 31, 32, 33, 34, 35, 36, 37, 38, 39, 40, 41, 42] (by decide +kernel) (by decide +kernel)) (goodIn_sub (fun _ h => List.mem_cons_of_mem _ (List.mem_append_right _ h)) (by decide +kernel))
set_option maxRecDepth 20000 in
theorem gL_maxStride_X9_maxStride : GoodIn wsL_maxStride (wsV RL 94 RX9 yX9_maxStride wsX9_maxStride) := goodIn_app (goodIn_of _ (by decide +kernel)) ggL_maxStride_X9_maxStride
theorem dL_maxStride_0 : decode cL_maxStride 0 = .ok (.aload_n 2, 1) := by decide +kernel
theorem dL_maxStride_1 : decode cL_maxStride 1 = .ok (.iconst 0, 1) := by decide +kernel
theorem dL_maxStride_2 : decode cL_maxStride 2 = .ok (.aload_n 0, 1) := by decide +kernel
theorem dL_maxStride_3 : decode cL_maxStride 3 = .ok (.iload_n 1, 1) := by decide +kernel
theorem dL_maxStride_4 : decode cL_maxStride 4 = .ok (.invokevirtual 94, 3) := by decide +kernel
theorem dL_maxStride_7 : decode cL_maxStride 7 = .ok (.i2l, 1) := by decide +kernel
theorem dL_maxStride_8 : decode cL_maxStride 8 = .ok (.lastore, 1) := by decide +kernel
theorem dL_maxStride_9 : decode cL_maxStride 9 = .ok (.goto 6, 3) := by decide +kernel
theorem dL_maxStride_12 : decode cL_maxStride 12 = .ok (.astore_n 3, 1) := by decide +kernel
theorem dL_maxStride_13 : decode cL_maxStride 13 = .ok (.iconst 1, 1) := by decide +kernel
theorem dL_maxStride_14 : decode cL_maxStride 14 = .ok (.ireturn, 1) := by decide +kernel
theorem dL_maxStride_15 : decode cL_maxStride 15 = .ok (.iconst 0, 1) := by decide +kernel
theorem dL_maxStride_16 : decode cL_maxStride 16 = .ok (.ireturn, 1) := by decide +kernel
set_option maxRecDepth 20000 in
theorem ggL_printCount_X9_printCount : GoodIn wsL_printCount wsX9_printCount := goodIn_ca (goodIn_r _ [6, 7, 8, 9, 10, 5, 11, 12, 13, 14, 15, 16, 17, 18, 19, 20, 21, 22, 23, 24, 25, 26, 27, 28, 29, 30, 31, 32, 33, 34, 35, 36, 37, 38, 39, 40, 41, 42, 43, 44, 45, 46, 47, 48, 49, 50, 51, 52, 53, 54, 55, 56, 57, 58, 59, 60, 61, 62, 63, 64, 65, 66, 67, 68] (by decide +kernel) (by decide +kernel)) (goodIn_sub (fun _ h => List.mem_cons_of_mem _ (List.mem_append_right _ h)) (by decide +kernel))
set_option maxRecDepth 20000 in
theorem gL_printCount_X9_printCount : GoodIn wsL_printCount (wsV RL 97 RX9 yX9_printCount wsX9_printCount) := goodIn_app (goodIn_of _ (by decide +kernel)) ggL_printCount_X9_printCount
theorem dL_printCount_0 : decode cL_printCount 0 = .ok (.aload_n 2, 1) := by decide +kernel
theorem dL_printCount_1 : decode cL_printCount 1 = .ok (.iconst 0, 1) := by decide +kernel
theorem dL_printCount_2 : decode cL_printCount 2 = .ok (.aload_n 0, 1) := by decide +kernel
theorem dL_printCount_3 : decode cL_printCount 3 = .ok (.iload_n 1, 1) := by decide +kernel
theorem dL_printCount_4 : decode cL_printCount 4 = .ok (.invokevirtual 97, 3) := by decide +kernel
theorem dL_printCount_7 : decode cL_printCount 7 = .ok (.i2l, 1) := by decide +kernel
theorem dL_printCount_8 : decode cL_printCount 8 = .ok (.lastore, 1) := by decide +kernel
theorem dL_printCount_9 : decode cL_printCount 9 = .ok (.goto 6, 3) := by decide +kernel
theorem dL_printCount_12 : decode cL_printCount 12 = .ok (.astore_n 3, 1) := by decide +kernel
theorem dL_printCount_13 : decode cL_printCount 13 = .ok (.iconst 1, 1) := by decide +kernel
theorem dL_printCount_14 : decode cL_printCount 14 = .ok (.ireturn, 1) := by decide +kernel
theorem dL_printCount_15 : decode cL_printCount 15 = .ok (.iconst 0, 1) := by decide +kernel
theorem dL_printCount_16 : decode cL_printCount 16 = .ok (.ireturn, 1) := by decide +kernel
set_option maxRecDepth 20000 in
theorem ggL_printAt_X9_printAt : GoodIn wsL_printAt wsX9_printAt := goodIn_ca (goodIn_ca (goodIn_r _ [7, 8, 9, 10, 11, 12, 6, 13, 14, 15, 16, 17, 18, 19, 20, 21, 22, 23, 24, 25, 26, 27, 28, 29, 30, 31, 32, 33, 34, 35, 36, 37, 38, 39, 40, 41, 42, 43, 44, 45, 46, 47, 48, 49, 50, 51, 52, 53, 54, 55, 56, 57, 58, 59, 60, 61, 62, 63, 64, 65, 66, 67, 68, 69, 70, 71, 72, 73, 74, 75] (by decide +kernel) (by decide +kernel)) (goodIn_sub (fun _ h => List.mem_cons_of_mem _ (List.mem_append_left _ (List.mem_append_right _ h))) (by decide +kernel))) (goodIn_sub (fun _ h => List.mem_cons_of_mem _ (List.mem_append_right _ h)) (by decide +kernel))
set_option maxRecDepth 20000 in
theorem gL_printAt_X9_printAt : GoodIn wsL_printAt (wsV RL 100 RX9 yX9_printAt wsX9_printAt) := goodIn_app (goodIn_of _ (by decide +kernel)) ggL_printAt_X9_printAt
theorem dL_printAt_0 : decode cL_printAt 0 = .ok (.aload_n 3, 1) := by decide +kernel
theorem dL_printAt_1 : decode cL_printAt 1 = .ok (.iconst 0, 1) := by decide +kernel
theorem dL_printAt_2 : decode cL_printAt 2 = .ok (.aload_n 0, 1) := by decide +kernel
theorem dL_printAt_3 : decode cL_printAt 3 = .ok (.iload_n 1, 1) := by decide +kernel
theorem dL_printAt_4 : decode cL_printAt 4 = .ok (.iload_n 2, 1) := by decide +kernel
theorem dL_printAt_5 : decode cL_printAt 5 = .ok (.invokevirtual 100, 3) := by decide +kernel
theorem dL_printAt_8 : decode cL_printAt 8 = .ok (.i2l, 1) := by decide +kernel
theorem dL_printAt_9 : decode cL_printAt 9 = .ok (.lastore, 1) := by decide +kernel
theorem dL_printAt_10 : decode cL_printAt 10 = .ok (.goto 11, 3) := by decide +kernel
theorem dL_printAt_13 : decode cL_printAt 13 = .ok (.astore 4, 2) := by decide +kernel
theorem dL_printAt_15 : decode cL_printAt 15 = .ok (.iconst 1, 1) := by decide +kernel
theorem dL_printAt_16 : decode cL_printAt 16 = .ok (.ireturn, 1) := by decide +kernel
theorem dL_printAt_17 : decode cL_printAt 17 = .ok (.astore 4, 2) := by decide +kernel
theorem dL_printAt_19 : decode cL_printAt 19 = .ok (.iconst 2, 1) := by decide +kernel
theorem dL_printAt_20 : decode cL_printAt 20 = .ok (.ireturn, 1) := by decide +kernel
theorem dL_printAt_21 : decode cL_printAt 21 = .ok (.iconst 0, 1) := by decide +kernel
theorem dL_printAt_22 : decode cL_printAt 22 = .ok (.ireturn, 1) := by decide +kernel
set_option maxRecDepth 20000 in
theorem ggL_trackLength_X9_trackLength : GoodIn wsL_trackLength wsX9_trackLength := goodIn_ca (goodIn_r _ [6, 7, 8, 9, 10, 5, 11, 12, 13, 14, 15, 16, 17, 18, 19, 20, 21, 22, 23, 24, 25, 26, 27, 28, 29, 30, 31, 32, 33, 34, 35, 36, 37, 38, 39, 40, 41, 42, 43, 44, 45, 46, 47, 48, 49, 50, 51, 52, 53, 54, 55, 56, 57, 58, 59, 60, 61, 62, 63, 64, 65, 66, 67, 68, 69, 70, 71, 72, 73, 74, 75, 76, 77, 78, 79, 80, 81, 82, 83, 84, 85, 86, 87, 88] (by decide +kernel) (by decide +kernel)) (goodIn_sub (fun _ h => List.mem_cons_of_mem _ (List.mem_append_right _ h)) (by decide +kernel))
set_option maxRecDepth 20000 in
theorem gL_trackLength_X9_trackLength : GoodIn wsL_trackLength (wsV RL 104 RX9 yX9_trackLength wsX9_trackLength) := goodIn_app (goodIn_of _ (by decide +kernel)) ggL_trackLength_X9_trackLength
theorem dL_trackLength_0 : decode cL_trackLength 0 = .ok (.aload_n 2, 1) := by decide +kernel
theorem dL_trackLength_1 : decode cL_trackLength 1 = .ok (.iconst 0, 1) := by decide +kernel
theorem dL_trackLength_2 : decode cL_trackLength 2 = .ok (.aload_n 0, 1) := by decide +kernel
theorem dL_trackLength_3 : decode cL_trackLength 3 = .ok (.iload_n 1, 1) := by decide +kernel
theorem dL_trackLength_4 : decode cL_trackLength 4 = .ok (.invokevirtual 104, 3) := by decide +kernel
theorem dL_trackLength_7 : decode cL_trackLength 7 = .ok (.i2l, 1) := by decide +kernel
theorem dL_trackLength_8 : decode cL_trackLength 8 = .ok (.lastore, 1) := by decide +kernel
theorem dL_trackLength_9 : decode cL_trackLength 9 = .ok (.goto 6, 3) := by decide +kernel
theorem dL_trackLength_12 : decode cL_trackLength 12 = .ok (.astore_n 3, 1) := by decide +kernel
theorem dL_trackLength_13 : decode cL_trackLength 13 = .ok (.iconst 1, 1) := by decide +kernel
theorem dL_trackLength_14 : decode cL_trackLength 14 = .ok (.ireturn, 1) := by decide +kernel
theorem dL_trackLength_15 : decode cL_trackLength 15 = .ok (.iconst 0, 1) := by decide +kernel
theorem dL_trackLength_16 : decode cL_trackLength 16 = .ok (.ireturn, 1) := by decide +kernel
set_option maxRecDepth 20000 in
theorem ggL_trackLengthAgain_X9_trackLengthAgain : GoodIn wsL_trackLengthAgain wsX9_trackLengthAgain := goodIn_ca (goodIn_r _ [6, 7, 8, 9, 10, 5, 11, 12, 13, 14, 15, 16, 17, 18, 19, 20, 21, 22, 23, 24, 25, 26, 27, 28, 29, 30, 31, 32, 33, 34, 35, 36, 37, 38, 39, 40, 41, 42, 43, 44, 45, 46, 47, 48, 49, 50, 51, 52, 53, 54, 55, 56, 57, 58, 59, 60, 61, 62, 63, 64, 65, 66, 67, 68, 69, 70, 71, 72, 73, 74, 75, 76, 77, 78, 79, 80, 81, 82] (by decide +kernel) (by decide +kernel)) (goodIn_sub (fun _ h => List.mem_cons_of_mem _ (List.mem_append_right _ h)) (by decide +kernel))
set_option maxRecDepth 20000 in
theorem gL_trackLengthAgain_X9_trackLengthAgain : GoodIn wsL_trackLengthAgain (wsV RL 107 RX9 yX9_trackLengthAgain wsX9_trackLengthAgain) := goodIn_app (goodIn_of _ (by decide +kernel)) ggL_trackLengthAgain_X9_trackLengthAgain
theorem dL_trackLengthAgain_0 : decode cL_trackLengthAgain 0 = .ok (.aload_n 2, 1) := by decide +kernel
theorem dL_trackLengthAgain_1 : decode cL_trackLengthAgain 1 = .ok (.iconst 0, 1) := by decide +kernel
theorem dL_trackLengthAgain_2 : decode cL_trackLengthAgain 2 = .ok (.aload_n 0, 1) := by decide +kernel
theorem dL_trackLengthAgain_3 : decode cL_trackLengthAgain 3 = .ok (.iload_n 1, 1) := by decide +kernel
theorem dL_trackLengthAgain_4 : decode cL_trackLengthAgain 4 = .ok (.invokevirtual 107, 3) := by decide +kernel
theorem dL_trackLengthAgain_7 : decode cL_trackLengthAgain 7 = .ok (.i2l, 1) := by decide +kernel
theorem dL_trackLengthAgain_8 : decode cL_trackLengthAgain 8 = .ok (.lastore, 1) := by decide +kernel
theorem dL_trackLengthAgain_9 : decode cL_trackLengthAgain 9 = .ok (.goto 6, 3) := by decide +kernel
theorem dL_trackLengthAgain_12 : decode cL_trackLengthAgain 12 = .ok (.astore_n 3, 1) := by decide +kernel
theorem dL_trackLengthAgain_13 : decode cL_trackLengthAgain 13 = .ok (.iconst 1, 1) := by decide +kernel
theorem dL_trackLengthAgain_14 : decode cL_trackLengthAgain 14 = .ok (.ireturn, 1) := by decide +kernel
theorem dL_trackLengthAgain_15 : decode cL_trackLengthAgain 15 = .ok (.iconst 0, 1) := by decide +kernel
theorem dL_trackLengthAgain_16 : decode cL_trackLengthAgain 16 = .ok (.ireturn, 1) := by decide +kernel
set_option maxRecDepth 20000 in
theorem ggL_errorCount_X9_errorCount : GoodIn wsL_errorCount wsX9_errorCount := goodIn_ca (goodIn_r _ [6, 7, 8, 9, 10, 11, 5, 12, 13, 14, 15, 16, 17, 18, 19, 20, 21, 22, 23, 24, 25, 26, 27, 28, 29, 30, 31, 32, 33, 34, 35, 36, 37, 38, 39, 40, 41, 42, 43, 44, 45, 46, 47, 48, 49, 50, 51, 52, 53, 54, 55, 56, 57, 58, 59, 60, 61, 62, 63, 64, 65, 66, 67, 68, 69, 70, 71, 72, 73, 74, 75, 76, 77, 78, 79, 80, 81, 82, 83, 84, 85, 86, 87, 88, 89, 90, 91, 92, 93, 94, 95, 96, 97, 98, 99, 100, 101, 102, 103, 104, 105, 106] (by decide +kernel) (by decide +kernel)) (goodIn_sub (fun _ h => List.mem_cons_of_mem _ (List.mem_append_right _ h)) (by decide +kernel))
set_option maxRecDepth 20000 in
theorem gL_errorCount_X9_errorCount : GoodIn wsL_errorCount (wsV RL 110 RX9 yX9_errorCount wsX9_errorCount) := goodIn_app (goodIn_of _ (by decide +kernel)) ggL_errorCount_X9_errorCount
theorem dL_errorCount_0 : decode cL_errorCount 0 = .ok (.aload_n 2, 1) := by decide +kernel
theorem dL_errorCount_1 : decode cL_errorCount 1 = .ok (.iconst 0, 1) := by decide +kernel
theorem dL_errorCount_2 : decode cL_errorCount 2 = .ok (.aload_n 0, 1) := by decide +kernel
theorem dL_errorCount_3 : decode cL_errorCount 3 = .ok (.iload_n 1, 1) := by decide +kernel
theorem dL_errorCount_4 : decode cL_errorCount 4 = .ok (.invokevirtual 110, 3) := by decide +kernel
theorem dL_errorCount_7 : decode cL_errorCount 7 = .ok (.i2l, 1) := by decide +kernel
theorem dL_errorCount_8 : decode cL_errorCount 8 = .ok (.lastore, 1) := by decide +kernel
theorem dL_errorCount_9 : decode cL_errorCount 9 = .ok (.goto 6, 3) := by decide +kernel
theorem dL_errorCount_12 : decode cL_errorCount 12 = .ok (.astore_n 3, 1) := by decide +kernel
theorem dL_errorCount_13 : decode cL_errorCount 13 = .ok (.iconst 1, 1) := by decide +kernel
theorem dL_errorCount_14 : decode cL_errorCount 14 = .ok (.ireturn, 1) := by decide +kernel
theorem dL_errorCount_15 : decode cL_errorCount 15 = .ok (.iconst 0, 1) := by decide +kernel
theorem dL_errorCount_16 : decode cL_errorCount 16 = .ok (.ireturn, 1) := by decide +kernel
set_option maxRecDepth 20000 in
theorem ggL_errorCountAgain_X9_errorCountAgain : GoodIn wsL_errorCountAgain wsX9_errorCountAgain := goodIn_ca (goodIn_r _ [6, 7, 8, 9, 10, 11, 5, 12, 13, 14, 15, 16, 17, 18, 19, 20, 21, 22, 23, 24, 25, 26, 27, 28, 29, 30, 31, 32, 33, 34, 35, 36, 37, 38, 39, 40, 41, 42, 43, 44, 45, 46, 47, 48, 49, 50, 51, 52, 53, 54, 55, 56, 57, 58, 59, 60, 61, 62, 63, 64, 65, 66, 67, 68, 69, 70, 71, 72, 73, 74, 75, 76, 77, 78, 79, 80, 81, 82, 83, 84, 85, 86, 87, 88, 89, 90, 91, 92, 93, 94, 95, 96, 97, 98, 99, 100, 101, 102, 103, 104, 105, 106] (by decide +kernel) (by decide +kernel)) (goodIn_sub (fun _ h => List.mem_cons_of_mem _ (List.mem_append_right _ h)) (by decide +kernel))
set_option maxRecDepth 20000 in
theorem gL_errorCountAgain_X9_errorCountAgain : GoodIn wsL_errorCountAgain (wsV RL 113 RX9 yX9_errorCountAgain wsX9_errorCountAgain) := goodIn_app (goodIn_of _ (by decide +kernel)) ggL_errorCountAgain_X9_errorCountAgain
theorem dL_errorCountAgain_0 : decode cL_errorCountAgain 0 = .ok (.aload_n 2, 1) := by decide +kernel
theorem dL_errorCountAgain_1 : decode cL_errorCountAgain 1 = .ok (.iconst 0, 1) := by decide +kernel
theorem dL_errorCountAgain_2 : decode cL_errorCountAgain 2 = .ok (.aload_n 0, 1) := by decide +kernel
theorem dL_errorCountAgain_3 : decode cL_errorCountAgain 3 = .ok (.iload_n 1, 1) := by decide +kernel
theorem dL_errorCountAgain_4 : decode cL_errorCountAgain 4 = .ok (.invokevirtual 113, 3) := by decide +kernel
theorem dL_errorCountAgain_7 : decode cL_errorCountAgain 7 = .ok (.i2l, 1) := by decide +kernel
theorem dL_errorCountAgain_8 : decode cL_errorCountAgain 8 = .ok (.lastore, 1) := by decide +kernel
theorem dL_errorCountAgain_9 : decode cL_errorCountAgain 9 = .ok (.goto 6, 3) := by decide +kernel
theorem dL_errorCountAgain_12 : decode cL_errorCountAgain 12 = .ok (.astore_n 3, 1) := by decide +kernel
theorem dL_errorCountAgain_13 : decode cL_errorCountAgain 13 = .ok (.iconst 1, 1) := by decide +kernel
theorem dL_errorCountAgain_14 : decode cL_errorCountAgain 14 = .ok (.ireturn, 1) := by decide +kernel
theorem dL_errorCountAgain_15 : decode cL_errorCountAgain 15 = .ok (.iconst 0, 1) := by decide +kernel
theorem dL_errorCountAgain_16 : decode cL_errorCountAgain 16 = .ok (.ireturn, 1) := by decide +kernel
set_option maxRecDepth 20000 in
theorem ggL_duration_X9_duration : GoodIn wsL_duration wsX9_duration := goodIn_ca (goodIn_ca (goodIn_r _ [7, 8, 9, 10, 11, 12, 6, 13, 14, 15, 16, 17, 18, 19, 20, 21, 22, 23, 24, 25, 26, 27, 28, 29, 30, 31, 32, 33, 34, 35, 36, 37, 38, 39, 40, 41, 42, 43, 44, 45, 46, 47, 48, 49, 50, 51, 52, 53, 54, 55, 56, 57, 58, 59, 60, 61, 62, 63, 64, 65, 66, 67, 68, 69, 70, 71, 72, 73, 74, 75, 76, 77, 78, 79] (by decide +kernel) (by decide +kernel)) (goodIn_sub (fun _ h => List.mem_cons_of_mem _ (List.mem_append_left _ (List.mem_append_right _ h))) (by decide +kernel))) (goodIn_sub (fun _ h => List.mem_cons_of_mem _ (List.mem_append_right _ h)) (by decide +kernel))
set_option maxRecDepth 20000 in
theorem gL_duration_X9_duration : GoodIn wsL_duration (wsV RL 116 RX9 yX9_duration wsX9_duration) := goodIn_app (goodIn_of _ (by decide +kernel)) ggL_duration_X9_duration
theorem dL_duration_0 : decode cL_duration 0 = .ok (.aload_n 2, 1) := by decide +kernel
theorem dL_duration_1 : decode cL_duration 1 = .ok (.iconst 0, 1) := by decide +kernel
theorem dL_duration_2 : decode cL_duration 2 = .ok (.aload_n 0, 1) := by decide +kernel
theorem dL_duration_3 : decode cL_duration 3 = .ok (.iload_n 1, 1) := by decide +kernel
theorem dL_duration_4 : decode cL_duration 4 = .ok (.invokevirtual 116, 3) := by decide +kernel
theorem dL_duration_7 : decode cL_duration 7 = .ok (.i2l, 1) := by decide +kernel
theorem dL_duration_8 : decode cL_duration 8 = .ok (.lastore, 1) := by decide +kernel
theorem dL_duration_9 : decode cL_duration 9 = .ok (.goto 9, 3) := by decide +kernel
theorem dL_duration_12 : decode cL_duration 12 = .ok (.astore_n 3, 1) := by decide +kernel
theorem dL_duration_13 : decode cL_duration 13 = .ok (.iconst 1, 1) := by decide +kernel
theorem dL_duration_14 : decode cL_duration 14 = .ok (.ireturn, 1) := by decide +kernel
theorem dL_duration_15 : decode cL_duration 15 = .ok (.astore_n 3, 1) := by decide +kernel
theorem dL_duration_16 : decode cL_duration 16 = .ok (.iconst 2, 1) := by decide +kernel
theorem dL_duration_17 : decode cL_duration 17 = .ok (.ireturn, 1) := by decide +kernel
theorem dL_duration_18 : decode cL_duration 18 = .ok (.iconst 0, 1) := by decide +kernel
theorem dL_duration_19 : decode cL_duration 19 = .ok (.ireturn, 1) := by decide +kernel
set_option maxRecDepth 20000 in
theorem ggL_averageStride_X9_averageStride : GoodIn wsL_averageStride wsX9_averageStride := goodIn_ca (goodIn_ca (goodIn_r _ [7, 8, 9, 10, 11, 12, 13, 14, 6, 15, 16, 17, 18, 19, 20, 21, 22, 23, 24, 25, 26, 27, 28, 29, 30, 31, 32, 33, 34, 35, 36, 37, 38, 39, 40, 41, 42, 43, 44, 45, 46, 47, 48, 49, 50, 51, 52, 53, 54, 55, 56, 57, 58, 59, 60, 61, 62, 63, 64, 65, 66, 67, 68, 69, 70, 71, 72, 73, 74, 75, 76, 77, 78, 79, 80, 81, 82, 83, 84, 85, 86, 87, 88, 89, 90, 91, 92, 93, 94, 95, 96, 97, 98, 99] (by decide +kernel) (by decide +kernel)) (goodIn_sub (fun _ h => List.mem_cons_of_mem _ (List.mem_append_left _ (List.mem_append_right _ h))) (by decide +kernel))) (goodIn_sub (fun _ h => List.mem_cons_of_mem _ (List.mem_append_right _ h)) (by decide +kernel))
set_option maxRecDepth 20000 in
theorem gL_averageStride_X9_averageStride : GoodIn wsL_averageStride (wsV RL 119 RX9 yX9_averageStride wsX9_averageStride) := goodIn_app (goodIn_of _ (by decide +kernel)) ggL_averageStride_X9_averageStride
theorem dL_averageStride_0 : decode cL_averageStride 0 = .ok (.aload_n 2, 1) := by decide +kernel
theorem dL_averageStride_1 : decode cL_averageStride 1 = .ok (.iconst 0, 1) := by decide +kernel
theorem dL_averageStride_2 : decode cL_averageStride 2 = .ok (.aload_n 0, 1) := by decide +kernel
theorem dL_averageStride_3 : decode cL_averageStride 3 = .ok (.iload_n 1, 1) := by decide +kernel
theorem dL_averageStride_4 : decode cL_averageStride 4 = .ok (.invokevirtual 119, 3) := by decide +kernel
theorem dL_averageStride_7 : decode cL_averageStride 7 = .ok (.dastore, 1) := by decide +kernel
theorem dL_averageStride_8 : decode cL_averageStride 8 = .ok (.goto 9, 3) := by decide +kernel
theorem dL_averageStride_11 : decode cL_averageStride 11 = .ok (.astore_n 3, 1) := by decide +kernel
theorem dL_averageStride_12 : decode cL_averageStride 12 = .ok (.iconst 1, 1) := by decide +kernel
theorem dL_averageStride_13 : decode cL_averageStride 13 = .ok (.ireturn, 1) := by decide +kernel
theorem dL_averageStride_14 : decode cL_averageStride 14 = .ok (.astore_n 3, 1) := by decide +kernel
theorem dL_averageStride_15 : decode cL_averageStride 15 = .ok (.iconst 2, 1) := by decide +kernel
theorem dL_averageStride_16 : decode cL_averageStride 16 = .ok (.ireturn, 1) := by decide +kernel
theorem dL_averageStride_17 : decode cL_averageStride 17 = .ok (.iconst 0, 1) := by decide +kernel
theorem dL_averageStride_18 : decode cL_averageStride 18 = .ok (.ireturn, 1) := by decide +kernel
set_option maxRecDepth 20000 in
theorem ggL_errorsIfMoved_X9_errorsIfMoved : GoodIn wsL_errorsIfMoved wsX9_errorsIfMoved := goodIn_ca (goodIn_r _ [6, 7, 8, 9, 10, 5, 11, 12, 13, 14, 15, 16, 17, 18, 19, 20, 21, 22, 23, 24, 25, 26, 27, 28, 29, 30, 31, 32, 33, 34, 35, 36, 37, 38, 39, 40, 41, 42, 43, 44, 45, 46, 47, 48, 49, 50, 51, 52, 53, 54, 55, 56, 57, 58, 59, 60, 61, 62, 63, 64, 65, 66, 67, 68, 69, 70, 71, 72, 73, 74, 75, 76, 77, 78, 79, 80, 81, 82, 83, 84, 85, 86, 87, 88, 89, 90, 91, 92, 93, 94, 95, 96, 97, 98, 99, 100, 101, 102, 103, 104, 105, 106, 107, 108, 109, 110, 111, 112, 113, 114, 115, 116, 117, 118, 119, 120, 121, 122, 123] (by decide +kernel) (by decide +kernel)) (goodIn_sub (fun _ h => List.mem_cons_of_mem _ (List.mem_append_right _ h)) (by decide +kernel))
set_option maxRecDepth 20000 in
theorem gL_errorsIfMoved_X9_errorsIfMoved : GoodIn wsL_errorsIfMoved (wsV RL 124 RX9 yX9_errorsIfMoved wsX9_errorsIfMoved) := goodIn_app (goodIn_of _ (by decide +kernel)) ggL_errorsIfMoved_X9_errorsIfMoved
theorem dL_errorsIfMoved_0 : decode cL_errorsIfMoved 0 = .ok (.aload 4, 2) := by decide +kernel
theorem dL_errorsIfMoved_2 : decode cL_errorsIfMoved 2 = .ok (.iconst 0, 1) := by decide +kernel
theorem dL_errorsIfMoved_3 : decode cL_errorsIfMoved 3 = .ok (.aload_n 0, 1) := by decide +kernel
theorem dL_errorsIfMoved_4 : decode cL_errorsIfMoved 4 = .ok (.iload_n 1, 1) := by decide +kernel
theorem dL_errorsIfMoved_5 : decode cL_errorsIfMoved 5 = .ok (.iload_n 2, 1) := by decide +kernel
theorem dL_errorsIfMoved_6 : decode cL_errorsIfMoved 6 = .ok (.iload_n 3, 1) := by decide +kernel
theorem dL_errorsIfMoved_7 : decode cL_errorsIfMoved 7 = .ok (.invokevirtual 124, 3) := by decide +kernel
theorem dL_errorsIfMoved_10 : decode cL_errorsIfMoved 10 = .ok (.i2l, 1) := by decide +kernel
theorem dL_errorsIfMoved_11 : decode cL_errorsIfMoved 11 = .ok (.lastore, 1) := by decide +kernel
theorem dL_errorsIfMoved_12 : decode cL_errorsIfMoved 12 = .ok (.goto 7, 3) := by decide +kernel
theorem dL_errorsIfMoved_15 : decode cL_errorsIfMoved 15 = .ok (.astore 5, 2) := by decide +kernel
theorem dL_errorsIfMoved_17 : decode cL_errorsIfMoved 17 = .ok (.iconst 1, 1) := by decide +kernel
theorem dL_errorsIfMoved_18 : decode cL_errorsIfMoved 18 = .ok (.ireturn, 1) := by decide +kernel
theorem dL_errorsIfMoved_19 : decode cL_errorsIfMoved 19 = .ok (.iconst 0, 1) := by decide +kernel
theorem dL_errorsIfMoved_20 : decode cL_errorsIfMoved 20 = .ok (.ireturn, 1) := by decide +kernel
set_option maxRecDepth 20000 in
theorem ggL_canMove_X9_canMove : GoodIn wsL_canMove wsX9_canMove := goodIn_ca (goodIn_r _ [6, 7, 8, 9, 10, 5, 11, 12, 13, 14, 15, 16, 17, 18, 19, 20, 21, 22, 23, 24, 25, 26, 27, 28, 29, 30, 31, 32, 33, 34, 35, 36, 37, 38, 39, 40, 41, 42, 43, 44, 45, 46, 47, 48, 49, 50, 51, 52, 53, 54, 55, 56, 57, 58, 59, 60, 61, 62, 63, 64, 65, 66, 67, 68, 69, 70, 71, 72, 73, 74, 75, 76, 77, 78, 79, 80, 81, 82, 83, 84, 85, 86, 87, 88, 89, 90, 91, 92, 93, 94, 95, 96, 97, 98, 99, 100, 101, 102] (by decide +kernel) (by decide +kernel)) (goodIn_sub (fun _ h => List.mem_cons_of_mem _ (List.mem_append_right _ h)) (by decide +kernel))
set_option maxRecDepth 20000 in
theorem gL_canMove_X9_canMove : GoodIn wsL_canMove (wsV RL 127 RX9 yX9_canMove wsX9_canMove) := goodIn_app (goodIn_of _ (by decide +kernel)) ggL_canMove_X9_canMove
theorem dL_canMove_0 : decode cL_canMove 0 = .ok (.aload 4, 2) := by decide +kernel
theorem dL_canMove_2 : decode cL_canMove 2 = .ok (.iconst 0, 1) := by decide +kernel
theorem dL_canMove_3 : decode cL_canMove 3 = .ok (.aload_n 0, 1) := by decide +kernel
theorem dL_canMove_4 : decode cL_canMove 4 = .ok (.iload_n 1, 1) := by decide +kernel
theorem dL_canMove_5 : decode cL_canMove 5 = .ok (.iload_n 2, 1) := by decide +kernel
theorem dL_canMove_6 : decode cL_canMove 6 = .ok (.iload_n 3, 1) := by decide +kernel
theorem dL_canMove_7 : decode cL_canMove 7 = .ok (.invokevirtual 127, 3) := by decide +kernel
theorem dL_canMove_10 : decode cL_canMove 10 = .ok (.ifCond .eq 7, 3) := by decide +kernel
theorem dL_canMove_13 : decode cL_canMove 13 = .ok (.lconst 1, 1) := by decide +kernel
theorem dL_canMove_14 : decode cL_canMove 14 = .ok (.goto 4, 3) := by decide +kernel
theorem dL_canMove_17 : decode cL_canMove 17 = .ok (.lconst 0, 1) := by decide +kernel
theorem dL_canMove_18 : decode cL_canMove 18 = .ok (.lastore, 1) := by decide +kernel
theorem dL_canMove_19 : decode cL_canMove 19 = .ok (.goto 7, 3) := by decide +kernel
theorem dL_canMove_22 : decode cL_canMove 22 = .ok (.astore 5, 2) := by decide +kernel
theorem dL_canMove_24 : decode cL_canMove 24 = .ok (.iconst 1, 1) := by decide +kernel
theorem dL_canMove_25 : decode cL_canMove 25 = .ok (.ireturn, 1) := by decide +kernel
theorem dL_canMove_26 : decode cL_canMove 26 = .ok (.iconst 0, 1) := by decide +kernel
theorem dL_canMove_27 : decode cL_canMove 27 = .ok (.ireturn, 1) := by decide +kernel
set_option maxRecDepth 20000 in
theorem ggL_suggestCell_X9_suggestCell : GoodIn wsL_suggestCell wsX9_suggestCell := goodIn_ca (goodIn_r _ [6, 7, 8, 9, 10, 5, 11, 12, 13, 14, 15, 16, 17, 18, 19, 20, 21, 22, 23, 24, 25, 26, 27, 28, 29, 30, 31, 32, 33, 34, 35, 36, 37, 38, 39, 40, 41, 42, 43, 44, 45, 46, 47, 48, 49, 50, 51, 52, 53, 54, 55, 56, 57, 58, 59, 60, 61, 62, 63, 64, 65, 66, 67, 68, 69, 70, 71, 72, 73, 74, 75, 76, 77, 78, 79, 80, 81, 82, 83, 84, 85, 86, 87, 88, 89, 90, 91, 92, 93, 94, 95, 96, 97, 98, 99, 100, 101, 102, 103, 104, 105, 106, 107, 108, 109, 110, 111, 112, 113, 114, 115, 116, 117, 118, 119, 120, 121, 122, 123, 124, 125, 126, 127, 128, 129, 130, 131, 132, 133, 134, 135, 136, 137, 138, 139, 140, 141, 142, 143, 144, 145, 146, 147, 148, 149, 150, 151, 152, 153, 154, 155, 156, 157, 158] (by decide +kernel) (by decide +kernel)) (goodIn_sub (fun _ h => List.mem_cons_of_mem _ (List.mem_append_right _ h)) (by decide +kernel))
set_option maxRecDepth 20000 in
theorem gL_suggestCell_X9_suggestCell : GoodIn wsL_suggestCell (wsV RL 131 RX9 yX9_suggestCell wsX9_suggestCell) := goodIn_app (goodIn_of _ (by decide +kernel)) ggL_suggestCell_X9_suggestCell
theorem dL_suggestCell_0 : decode cL_suggestCell 0 = .ok (.aload_n 2, 1) := by decide +kernel
theorem dL_suggestCell_1 : decode cL_suggestCell 1 = .ok (.iconst 0, 1) := by decide +kernel
theorem dL_suggestCell_2 : decode cL_suggestCell 2 = .ok (.aload_n 0, 1) := by decide +kernel
theorem dL_suggestCell_3 : decode cL_suggestCell 3 = .ok (.iload_n 1, 1) := by decide +kernel
theorem dL_suggestCell_4 : decode cL_suggestCell 4 = .ok (.invokevirtual 131, 3) := by decide +kernel
theorem dL_suggestCell_7 : decode cL_suggestCell 7 = .ok (.i2l, 1) := by decide +kernel
theorem dL_suggestCell_8 : decode cL_suggestCell 8 = .ok (.lastore, 1) := by decide +kernel
theorem dL_suggestCell_9 : decode cL_suggestCell 9 = .ok (.goto 6, 3) := by decide +kernel
theorem dL_suggestCell_12 : decode cL_suggestCell 12 = .ok (.astore_n 3, 1) := by decide +kernel
theorem dL_suggestCell_13 : decode cL_suggestCell 13 = .ok (.iconst 1, 1) := by decide +kernel
theorem dL_suggestCell_14 : decode cL_suggestCell 14 = .ok (.ireturn, 1) := by decide +kernel
theorem dL_suggestCell_15 : decode cL_suggestCell 15 = .ok (.iconst 0, 1) := by decide +kernel
theorem dL_suggestCell_16 : decode cL_suggestCell 16 = .ok (.ireturn, 1) := by decide +kernel
set_option maxRecDepth 20000 in
theorem ggL_trackByErrors_X9_trackByErrors : GoodIn wsL_trackByErrors wsX9_trackByErrors := goodIn_ca (goodIn_r _ [6, 7, 8, 9, 10, 11, 12, 13, 14, 15, 16, 17, 18, 19, 20, 21, 22, 23, 24, 25, 26, 27, 28, 29, 30, 31, 32, 33, 34, 35, 36, 37, 38, 39, 40, 41, 42, 43, 44, 45, 46, 47, 48, 49, 50, 51, 52, 53, 54, 55, 56, 57, 58, 59, 60, 61, 62, 63, 64, 65, 66, 67, 68, 69, 70, 71, 72, 73, 74, 75, 76, 77, 78, 79, 80, 81, 82, 83, 84, 85, 86, 87, 88, 89, 90, 91, 92, 93, 94, 95, 96, 97, 98, 99, 100, 101, 102, 103, 104, 105, 106, 107, 108, 109, 110, 111, 112, 113, 114, 115, 116, 117, 118] (by decide +kernel) (by decide +kernel)) (goodIn_sub (fun _ h => List.mem_cons_of_mem _ (List.mem_append_right _ h)) (by decide +kernel))
set_option maxRecDepth 20000 in
theorem gL_trackByErrors_X9_trackByErrors : GoodIn wsL_trackByErrors (wsV RL 134 RX9 yX9_trackByErrors wsX9_trackByErrors) := goodIn_app (goodIn_of _ (by decide +kernel)) ggL_trackByErrors_X9_trackByErrors
theorem dL_trackByErrors_0 : decode cL_trackByErrors 0 = .ok (.aload_n 2, 1) := by decide +kernel
theorem dL_trackByErrors_1 : decode cL_trackByErrors 1 = .ok (.iconst 0, 1) := by decide +kernel
theorem dL_trackByErrors_2 : decode cL_trackByErrors 2 = .ok (.aload_n 0, 1) := by decide +kernel
theorem dL_trackByErrors_3 : decode cL_trackByErrors 3 = .ok (.iload_n 1, 1) := by decide +kernel
theorem dL_trackByErrors_4 : decode cL_trackByErrors 4 = .ok (.invokevirtual 134, 3) := by decide +kernel
theorem dL_trackByErrors_7 : decode cL_trackByErrors 7 = .ok (.i2l, 1) := by decide +kernel
theorem dL_trackByErrors_8 : decode cL_trackByErrors 8 = .ok (.lastore, 1) := by decide +kernel
theorem dL_trackByErrors_9 : decode cL_trackByErrors 9 = .ok (.goto 6, 3) := by decide +kernel
theorem dL_trackByErrors_12 : decode cL_trackByErrors 12 = .ok (.astore_n 3, 1) := by decide +kernel
theorem dL_trackByErrors_13 : decode cL_trackByErrors 13 = .ok (.iconst 1, 1) := by decide +kernel
theorem dL_trackByErrors_14 : decode cL_trackByErrors 14 = .ok (.ireturn, 1) := by decide +kernel
theorem dL_trackByErrors_15 : decode cL_trackByErrors 15 = .ok (.iconst 0, 1) := by decide +kernel
theorem dL_trackByErrors_16 : decode cL_trackByErrors 16 = .ok (.ireturn, 1) := by decide +kernel
set_option maxRecDepth 20000 in
theorem ggL_printByDoubts_X9_printByDoubts : GoodIn wsL_printByDoubts wsX9_printByDoubts := goodIn_ca (goodIn_r _ [6, 7, 8, 9, 10, 11, 12, 13, 14, 15, 16, 17, 18, 19, 20, 21, 22, 23, 24, 25, 26, 27, 28, 29, 30, 31, 32, 33, 34, 35, 36, 37, 38, 39, 40, 41, 42, 43, 44, 45, 46, 47, 48, 49] (by decide +kernel) (by decide +kernel)) (goodIn_sub (fun _ h => List.mem_cons_of_mem _ (List.mem_append_right _ h)) (by decide +kernel))
set_option maxRecDepth 20000 in
theorem gL_printByDoubts_X9_printByDoubts : GoodIn wsL_printByDoubts (wsV RL 137 RX9 yX9_printByDoubts wsX9_printByDoubts) := goodIn_app (goodIn_of _ (by decide +kernel)) ggL_printByDoubts_X9_printByDoubts
theorem dL_printByDoubts_0 : decode cL_printByDoubts 0 = .ok (.aload_n 2, 1) := by decide +kernel
theorem dL_printByDoubts_1 : decode cL_printByDoubts 1 = .ok (.iconst 0, 1) := by decide +kernel
theorem dL_printByDoubts_2 : decode cL_printByDoubts 2 = .ok (.aload_n 0, 1) := by decide +kernel
theorem dL_printByDoubts_3 : decode cL_printByDoubts 3 = .ok (.iload_n 1, 1) := by decide +kernel
theorem dL_printByDoubts_4 : decode cL_printByDoubts 4 = .ok (.invokevirtual 137, 3) := by decide +kernel
theorem dL_printByDoubts_7 : decode cL_printByDoubts 7 = .ok (.i2l, 1) := by decide +kernel
theorem dL_printByDoubts_8 : decode cL_printByDoubts 8 = .ok (.lastore, 1) := by decide +kernel
theorem dL_printByDoubts_9 : decode cL_printByDoubts 9 = .ok (.goto 6, 3) := by decide +kernel
theorem dL_printByDoubts_12 : decode cL_printByDoubts 12 = .ok (.astore_n 3, 1) := by decide +kernel
theorem dL_printByDoubts_13 : decode cL_printByDoubts 13 = .ok (.iconst 1, 1) := by decide +kernel
theorem dL_printByDoubts_14 : decode cL_printByDoubts 14 = .ok (.ireturn, 1) := by decide +kernel
theorem dL_printByDoubts_15 : decode cL_printByDoubts 15 = .ok (.iconst 0, 1) := by decide +kernel
theorem dL_printByDoubts_16 : decode cL_printByDoubts 16 = .ok (.ireturn, 1) := by decide +kernel
set_option maxRecDepth 20000 in
theorem ggL_printIn_X9_printIn : GoodIn wsL_printIn wsX9_printIn := goodIn_ca (goodIn_ca (goodIn_r _ [7, 8, 9, 10, 11, 6, 12, 13, 14, 15, 16, 17, 18, 19, 20, 21, 22, 23, 24, 25, 26, 27, 28, 29, 30, 31, 32, 33, 34, 35, 36, 37, 38, 39, 40, 41, 42, 43, 44, 45, 46, 47, 48, 49, 50, 51, 52, 53, 54, 55, 56, 57, 58, 59, 60, 61] (by decide +kernel) (by decide +kernel)) (goodIn_sub (fun _ h => List.mem_cons_of_mem _ (List.mem_append_left _ (List.mem_append_right _ h))) (by decide +kernel))) (goodIn_sub (fun _ h => List.mem_cons_of_mem _ (List.mem_append_right _ h)) (by decide +kernel))
set_option maxRecDepth 20000 in
theorem gL_printIn_X9_printIn : GoodIn wsL_printIn (wsV RL 140 RX9 yX9_printIn wsX9_printIn) := goodIn_app (goodIn_of _ (by decide +kernel)) ggL_printIn_X9_printIn
theorem dL_printIn_0 : decode cL_printIn 0 = .ok (.aload_n 3, 1) := by decide +kernel
theorem dL_printIn_1 : decode cL_printIn 1 = .ok (.iconst 0, 1) := by decide +kernel
theorem dL_printIn_2 : decode cL_printIn 2 = .ok (.aload_n 0, 1) := by decide +kernel
theorem dL_printIn_3 : decode cL_printIn 3 = .ok (.iload_n 1, 1) := by decide +kernel
theorem dL_printIn_4 : decode cL_printIn 4 = .ok (.iload_n 2, 1) := by decide +kernel
theorem dL_printIn_5 : decode cL_printIn 5 = .ok (.invokevirtual 140, 3) := by decide +kernel
theorem dL_printIn_8 : decode cL_printIn 8 = .ok (.i2l, 1) := by decide +kernel
theorem dL_printIn_9 : decode cL_printIn 9 = .ok (.lastore, 1) := by decide +kernel
theorem dL_printIn_10 : decode cL_printIn 10 = .ok (.goto 11, 3) := by decide +kernel
theorem dL_printIn_13 : decode cL_printIn 13 = .ok (.astore 4, 2) := by decide +kernel
theorem dL_printIn_15 : decode cL_printIn 15 = .ok (.iconst 1, 1) := by decide +kernel
theorem dL_printIn_16 : decode cL_printIn 16 = .ok (.ireturn, 1) := by decide +kernel
theorem dL_printIn_17 : decode cL_printIn 17 = .ok (.astore 4, 2) := by decide +kernel
theorem dL_printIn_19 : decode cL_printIn 19 = .ok (.iconst 2, 1) := by decide +kernel
theorem dL_printIn_20 : decode cL_printIn 20 = .ok (.ireturn, 1) := by decide +kernel
theorem dL_printIn_21 : decode cL_printIn 21 = .ok (.iconst 0, 1) := by decide +kernel
theorem dL_printIn_22 : decode cL_printIn 22 = .ok (.ireturn, 1) := by decide +kernel
set_option maxRecDepth 20000 in
theorem ggL_printsInRow_X9_printsInRow : GoodIn wsL_printsInRow wsX9_printsInRow := goodIn_ca (goodIn_r _ [6, 7, 8, 9, 5, 10, 11, 12, 13, 14, 15, 16, 17, 18, 19, 20, 21, 22, 23, 24, 25, 26, 27, 28, 29, 30, 31, 32, 33, 34, 35, 36, 37, 38, 39, 40, 41, 42, 43, 44, 45, 46, 47, 48, 49, 50] (by decide +kernel) (by decide +kernel)) (goodIn_sub (fun _ h => List.mem_cons_of_mem _ (List.mem_append_right _ h)) (by decide +kernel))
set_option maxRecDepth 20000 in
theorem gL_printsInRow_X9_printsInRow : GoodIn wsL_printsInRow (wsV RL 143 RX9 yX9_printsInRow wsX9_printsInRow) := goodIn_app (goodIn_of _ (by decide +kernel)) ggL_printsInRow_X9_printsInRow
theorem dL_printsInRow_0 : decode cL_printsInRow 0 = .ok (.aload_n 2, 1) := by decide +kernel
theorem dL_printsInRow_1 : decode cL_printsInRow 1 = .ok (.iconst 0, 1) := by decide +kernel
theorem dL_printsInRow_2 : decode cL_printsInRow 2 = .ok (.aload_n 0, 1) := by decide +kernel
theorem dL_printsInRow_3 : decode cL_printsInRow 3 = .ok (.iload_n 1, 1) := by decide +kernel
theorem dL_printsInRow_4 : decode cL_printsInRow 4 = .ok (.invokevirtual 143, 3) := by decide +kernel
theorem dL_printsInRow_7 : decode cL_printsInRow 7 = .ok (.i2l, 1) := by decide +kernel
theorem dL_printsInRow_8 : decode cL_printsInRow 8 = .ok (.lastore, 1) := by decide +kernel
theorem dL_printsInRow_9 : decode cL_printsInRow 9 = .ok (.goto 6, 3) := by decide +kernel
theorem dL_printsInRow_12 : decode cL_printsInRow 12 = .ok (.astore_n 3, 1) := by decide +kernel
theorem dL_printsInRow_13 : decode cL_printsInRow 13 = .ok (.iconst 1, 1) := by decide +kernel
theorem dL_printsInRow_14 : decode cL_printsInRow 14 = .ok (.ireturn, 1) := by decide +kernel
theorem dL_printsInRow_15 : decode cL_printsInRow 15 = .ok (.iconst 0, 1) := by decide +kernel
theorem dL_printsInRow_16 : decode cL_printsInRow 16 = .ok (.ireturn, 1) := by decide +kernel
set_option maxRecDepth 20000 in
theorem ggL_erasedBy_X9_erasedBy : GoodIn wsL_erasedBy wsX9_erasedBy := goodIn_ca (goodIn_r _ [6, 7, 8, 9, 5, 10, 11, 12, 13, 14, 15, 16, 17, 18, 19, 20, 21, 22, 23, 24, 25, 26, 27, 28, 29, 30, 31, 32, 33, 34, 35, 36, 37, 38, 39, 40, 41, 42, 43, 44, 45, 46, 47, 48, 49, 50] (by decide +kernel) (by decide +kernel)) (goodIn_sub (fun _ h => List.mem_cons_of_mem _ (List.mem_append_right _ h)) (by decide +kernel))
set_option maxRecDepth 20000 in
theorem gL_erasedBy_X9_erasedBy : GoodIn wsL_erasedBy (wsV RL 146 RX9 yX9_erasedBy wsX9_erasedBy) := goodIn_app (goodIn_of _ (by decide +kernel)) ggL_erasedBy_X9_erasedBy
theorem dL_erasedBy_0 : decode cL_erasedBy 0 = .ok (.aload_n 2, 1) := by decide +kernel
theorem dL_erasedBy_1 : decode cL_erasedBy 1 = .ok (.iconst 0, 1) := by decide +kernel
theorem dL_erasedBy_2 : decode cL_erasedBy 2 = .ok (.aload_n 0, 1) := by decide +kernel
theorem dL_erasedBy_3 : decode cL_erasedBy 3 = .ok (.iload_n 1, 1) := by decide +kernel
theorem dL_erasedBy_4 : decode cL_erasedBy 4 = .ok (.invokevirtual 146, 3) := by decide +kernel
theorem dL_erasedBy_7 : decode cL_erasedBy 7 = .ok (.i2l, 1) := by decide +kernel
theorem dL_erasedBy_8 : decode cL_erasedBy 8 = .ok (.lastore, 1) := by decide +kernel
theorem dL_erasedBy_9 : decode cL_erasedBy 9 = .ok (.goto 6, 3) := by decide +kernel
theorem dL_erasedBy_12 : decode cL_erasedBy 12 = .ok (.astore_n 3, 1) := by decide +kernel
theorem dL_erasedBy_13 : decode cL_erasedBy 13 = .ok (.iconst 1, 1) := by decide +kernel
theorem dL_erasedBy_14 : decode cL_erasedBy 14 = .ok (.ireturn, 1) := by decide +kernel
theorem dL_erasedBy_15 : decode cL_erasedBy 15 = .ok (.iconst 0, 1) := by decide +kernel
theorem dL_erasedBy_16 : decode cL_erasedBy 16 = .ok (.ireturn, 1) := by decide +kernel
set_option maxRecDepth 20000 in
theorem ggL_lateShare_X9_lateShare : GoodIn wsL_lateShare wsX9_lateShare := goodIn_ca (goodIn_r _ [6, 7, 8, 9, 10, 11, 12, 13, 14, 15, 16, 17, 18, 19, 20, 21, 22, 23, 24, 25, 26, 27, 28, 29, 30, 31, 32, 33, 34, 35, 36, 37, 38, 39, 40, 41, 42, 43, 44, 45, 46, 47, 48, 49, 50, 51, 52, 53] (by decide +kernel) (by decide +kernel)) (goodIn_sub (fun _ h => List.mem_cons_of_mem _ (List.mem_append_right _ h)) (by decide +kernel))
set_option maxRecDepth 20000 in
theorem gL_lateShare_X9_lateShare : GoodIn wsL_lateShare (wsV RL 149 RX9 yX9_lateShare wsX9_lateShare) := goodIn_app (goodIn_of _ (by decide +kernel)) ggL_lateShare_X9_lateShare
theorem dL_lateShare_0 : decode cL_lateShare 0 = .ok (.aload_n 1, 1) := by decide +kernel
theorem dL_lateShare_1 : decode cL_lateShare 1 = .ok (.iconst 0, 1) := by decide +kernel
theorem dL_lateShare_2 : decode cL_lateShare 2 = .ok (.aload_n 0, 1) := by decide +kernel
theorem dL_lateShare_3 : decode cL_lateShare 3 = .ok (.invokevirtual 149, 3) := by decide +kernel
theorem dL_lateShare_6 : decode cL_lateShare 6 = .ok (.f2d, 1) := by decide +kernel
theorem dL_lateShare_7 : decode cL_lateShare 7 = .ok (.dastore, 1) := by decide +kernel
theorem dL_lateShare_8 : decode cL_lateShare 8 = .ok (.goto 6, 3) := by decide +kernel
theorem dL_lateShare_11 : decode cL_lateShare 11 = .ok (.astore_n 2, 1) := by decide +kernel
theorem dL_lateShare_12 : decode cL_lateShare 12 = .ok (.iconst 1, 1) := by decide +kernel
theorem dL_lateShare_13 : decode cL_lateShare 13 = .ok (.ireturn, 1) := by decide +kernel
theorem dL_lateShare_14 : decode cL_lateShare 14 = .ok (.iconst 0, 1) := by decide +kernel
theorem dL_lateShare_15 : decode cL_lateShare 15 = .ok (.ireturn, 1) := by decide +kernel
set_option maxRecDepth 20000 in
theorem ggL_writeTrack_X9_writeTrack : GoodIn wsL_writeTrack wsX9_writeTrack := goodIn_ca (goodIn_ca (goodIn_r _ [6, 7, 8, 9, 10, 11, 12, 5, 13, 14, 15, 16, 17, 18, 19, 20, 21, 22, 23, 24, 25, 26, 27, 28, 29, 30, 31, 32, 33, 34, 35, 36, 37, 38, 39, 40, 41, 42, 43, 44, 45, 46, 47, 48, 49, 50, 51, 52, 53, 54, 55, 56, 57, 58, 59, 60, 61, 62, 63, 64, 65, 66, 67, 68, 69, 70, 71, 72, 73, 74, 75, 76, 77, 78, 79, 80, 81, 82, 83, 84, 85, 86, 87, 88, 89, 90, 91, 92, 93, 94, 95, 96, 97, 98, 99, 100, 101, 102, 103, 104, 105, 106, 107, 108, 109, 110, 111, 112, 113, 114, 115, 116, 117, 118, 119, 120, 121, 122, 123, 124, 125, 126, 127, 128, 129, 130, 131, 132, 133, 134, 135, 136, 137, 138, 139, 140, 141, 142, 143, 144, 145, 146, 147, 148] (by decide +kernel) (by decide +kernel)) (goodIn_sub (fun _ h => List.mem_cons_of_mem _ (List.mem_append_right _ h)) (by decide +kernel))) (goodIn_sub (fun _ h => List.mem_cons_of_mem _ (List.mem_append_left _ (List.mem_append_right _ h))) (by decide +kernel))
set_option maxRecDepth 20000 in
theorem gL_writeTrack_X9_writeTrack : GoodIn wsL_writeTrack (wsV RL 153 RX9 yX9_writeTrack wsX9_writeTrack) := goodIn_app (goodIn_of _ (by decide +kernel)) ggL_writeTrack_X9_writeTrack
theorem dL_writeTrack_0 : decode cL_writeTrack 0 = .ok (.aload_n 2, 1) := by decide +kernel
theorem dL_writeTrack_1 : decode cL_writeTrack 1 = .ok (.iconst 0, 1) := by decide +kernel
theorem dL_writeTrack_2 : decode cL_writeTrack 2 = .ok (.aload_n 0, 1) := by decide +kernel
theorem dL_writeTrack_3 : decode cL_writeTrack 3 = .ok (.iload_n 1, 1) := by decide +kernel
theorem dL_writeTrack_4 : decode cL_writeTrack 4 = .ok (.invokevirtual 153, 3) := by decide +kernel
theorem dL_writeTrack_7 : decode cL_writeTrack 7 = .ok (.i2l, 1) := by decide +kernel
theorem dL_writeTrack_8 : decode cL_writeTrack 8 = .ok (.lastore, 1) := by decide +kernel
theorem dL_writeTrack_9 : decode cL_writeTrack 9 = .ok (.goto 6, 3) := by decide +kernel
theorem dL_writeTrack_12 : decode cL_writeTrack 12 = .ok (.astore_n 3, 1) := by decide +kernel
theorem dL_writeTrack_13 : decode cL_writeTrack 13 = .ok (.iconst 1, 1) := by decide +kernel
theorem dL_writeTrack_14 : decode cL_writeTrack 14 = .ok (.ireturn, 1) := by decide +kernel
theorem dL_writeTrack_15 : decode cL_writeTrack 15 = .ok (.iconst 0, 1) := by decide +kernel
theorem dL_writeTrack_16 : decode cL_writeTrack 16 = .ok (.ireturn, 1) := by decide +kernel
set_option maxRecDepth 20000 in
theorem ggL_writeRow_X9_writeRow : GoodIn wsL_writeRow wsX9_writeRow := goodIn_ca (goodIn_ca (goodIn_r _ [6, 7, 8, 9, 10, 5, 11, 12, 13, 14, 15, 16, 17, 18, 19, 20, 21, 22, 23, 24, 25, 26, 27, 28, 29, 30, 31, 32, 33, 34, 35, 36, 37, 38, 39, 40, 41, 42, 43, 44, 45, 46, 47, 48, 49, 50, 51, 52, 53, 54, 55, 56, 57, 58, 59, 60, 61, 62, 63, 64, 65, 66, 67, 68, 69, 70, 71, 72, 73, 74, 75, 76] (by decide +kernel) (by decide +kernel)) (goodIn_sub (fun _ h => List.mem_cons_of_mem _ (List.mem_append_right _ h)) (by decide +kernel))) (goodIn_sub (fun _ h => List.mem_cons_of_mem _ (List.mem_append_left _ (List.mem_append_right _ h))) (by decide +kernel))
set_option maxRecDepth 20000 in
theorem gL_writeRow_X9_writeRow : GoodIn wsL_writeRow (wsV RL 156 RX9 yX9_writeRow wsX9_writeRow) := goodIn_app (goodIn_of _ (by decide +kernel)) ggL_writeRow_X9_writeRow
theorem dL_writeRow_0 : decode cL_writeRow 0 = .ok (.aload_n 2, 1) := by decide +kernel
theorem dL_writeRow_1 : decode cL_writeRow 1 = .ok (.iconst 0, 1) := by decide +kernel
theorem dL_writeRow_2 : decode cL_writeRow 2 = .ok (.aload_n 0, 1) := by decide +kernel
theorem dL_writeRow_3 : decode cL_writeRow 3 = .ok (.iload_n 1, 1) := by decide +kernel
theorem dL_writeRow_4 : decode cL_writeRow 4 = .ok (.invokevirtual 156, 3) := by decide +kernel
theorem dL_writeRow_7 : decode cL_writeRow 7 = .ok (.i2l, 1) := by decide +kernel
theorem dL_writeRow_8 : decode cL_writeRow 8 = .ok (.lastore, 1) := by decide +kernel
theorem dL_writeRow_9 : decode cL_writeRow 9 = .ok (.goto 6, 3) := by decide +kernel
theorem dL_writeRow_12 : decode cL_writeRow 12 = .ok (.astore_n 3, 1) := by decide +kernel
theorem dL_writeRow_13 : decode cL_writeRow 13 = .ok (.iconst 1, 1) := by decide +kernel
theorem dL_writeRow_14 : decode cL_writeRow 14 = .ok (.ireturn, 1) := by decide +kernel
theorem dL_writeRow_15 : decode cL_writeRow 15 = .ok (.iconst 0, 1) := by decide +kernel
theorem dL_writeRow_16 : decode cL_writeRow 16 = .ok (.ireturn, 1) := by decide +kernel
set_option maxRecDepth 20000 in
theorem ggL_outputAt_X9_outputAt : GoodIn wsL_outputAt wsX9_outputAt := goodIn_ca (goodIn_ca (goodIn_r _ [6, 7, 8, 9, 10, 11, 12, 13, 14, 15, 16, 17, 18, 19, 20, 21, 22, 23, 24, 25, 26, 27, 28, 29, 30, 31, 32, 33] (by decide +kernel) (by decide +kernel)) (goodIn_sub (fun _ h => List.mem_cons_of_mem _ (List.mem_append_right _ h)) (by decide +kernel))) (goodIn_sub (fun _ h => List.mem_cons_of_mem _ (List.mem_append_left _ (List.mem_append_right _ h))) (by decide +kernel))
set_option maxRecDepth 20000 in
theorem gL_outputAt_X9_outputAt : GoodIn wsL_outputAt (wsV RL 159 RX9 yX9_outputAt wsX9_outputAt) := goodIn_app (goodIn_of _ (by decide +kernel)) ggL_outputAt_X9_outputAt
theorem dL_outputAt_0 : decode cL_outputAt 0 = .ok (.aload_n 2, 1) := by decide +kernel
theorem dL_outputAt_1 : decode cL_outputAt 1 = .ok (.iconst 0, 1) := by decide +kernel
theorem dL_outputAt_2 : decode cL_outputAt 2 = .ok (.aload_n 0, 1) := by decide +kernel
theorem dL_outputAt_3 : decode cL_outputAt 3 = .ok (.iload_n 1, 1) := by decide +kernel
theorem dL_outputAt_4 : decode cL_outputAt 4 = .ok (.invokevirtual 159, 3) := by decide +kernel
theorem dL_outputAt_7 : decode cL_outputAt 7 = .ok (.i2l, 1) := by decide +kernel
theorem dL_outputAt_8 : decode cL_outputAt 8 = .ok (.lastore, 1) := by decide +kernel
theorem dL_outputAt_9 : decode cL_outputAt 9 = .ok (.goto 6, 3) := by decide +kernel
theorem dL_outputAt_12 : decode cL_outputAt 12 = .ok (.astore_n 3, 1) := by decide +kernel
theorem dL_outputAt_13 : decode cL_outputAt 13 = .ok (.iconst 1, 1) := by decide +kernel
theorem dL_outputAt_14 : decode cL_outputAt 14 = .ok (.ireturn, 1) := by decide +kernel
theorem dL_outputAt_15 : decode cL_outputAt 15 = .ok (.iconst 0, 1) := by decide +kernel
theorem dL_outputAt_16 : decode cL_outputAt 16 = .ok (.ireturn, 1) := by decide +kernel
set_option maxRecDepth 20000 in
theorem ggL_appendInput_X9_appendInput : GoodIn wsL_appendInput wsX9_appendInput := goodIn_ca (goodIn_ca (goodIn_ca (goodIn_r _ [7, 8, 9, 10, 11, 12, 13, 14, 15, 16, 17, 18, 19, 20, 21, 22, 23, 24, 25, 26, 27, 28, 29, 30, 31, 32, 33, 34, 35, 36, 37, 38, 39, 40, 41, 42] (by decide +kernel) (by decide +kernel)) (goodIn_sub (fun _ h => List.mem_cons_of_mem _ (List.mem_append_left _ (List.mem_append_right _ h))) (by decide +kernel))) (goodIn_sub (fun _ h => List.mem_cons_of_mem _ (List.mem_append_right _ h)) (by decide +kernel))) (goodIn_sub (fun _ h => List.mem_cons_of_mem _ (List.mem_append_left _ (List.mem_append_left _ (List.mem_append_right _ h)))) (by decide +kernel))
set_option maxRecDepth 20000 in
theorem gL_appendInput_X9_appendInput : GoodIn wsL_appendInput (wsV RL 163 RX9 yX9_appendInput wsX9_appendInput) := goodIn_app (goodIn_of _ (by decide +kernel)) ggL_appendInput_X9_appendInput
theorem dL_appendInput_0 : decode cL_appendInput 0 = .ok (.aload_n 2, 1) := by decide +kernel
theorem dL_appendInput_1 : decode cL_appendInput 1 = .ok (.iconst 0, 1) := by decide +kernel
theorem dL_appendInput_2 : decode cL_appendInput 2 = .ok (.aload_n 0, 1) := by decide +kernel
theorem dL_appendInput_3 : decode cL_appendInput 3 = .ok (.iload_n 1, 1) := by decide +kernel
theorem dL_appendInput_4 : decode cL_appendInput 4 = .ok (.invokevirtual 163, 3) := by decide +kernel
theorem dL_appendInput_7 : decode cL_appendInput 7 = .ok (.i2l, 1) := by decide +kernel
theorem dL_appendInput_8 : decode cL_appendInput 8 = .ok (.lastore, 1) := by decide +kernel
theorem dL_appendInput_9 : decode cL_appendInput 9 = .ok (.goto 9, 3) := by decide +kernel
theorem dL_appendInput_12 : decode cL_appendInput 12 = .ok (.astore_n 3, 1) := by decide +kernel
theorem dL_appendInput_13 : decode cL_appendInput 13 = .ok (.iconst 1, 1) := by decide +kernel
theorem dL_appendInput_14 : decode cL_appendInput 14 = .ok (.ireturn, 1) := by decide +kernel
theorem dL_appendInput_15 : decode cL_appendInput 15 = .ok (.astore_n 3, 1) := by decide +kernel
theorem dL_appendInput_16 : decode cL_appendInput 16 = .ok (.iconst 2, 1) := by decide +kernel
theorem dL_appendInput_17 : decode cL_appendInput 17 = .ok (.ireturn, 1) := by decide +kernel
theorem dL_appendInput_18 : decode cL_appendInput 18 = .ok (.iconst 0, 1) := by decide +kernel
theorem dL_appendInput_19 : decode cL_appendInput 19 = .ok (.ireturn, 1) := by decide +kernel
set_option maxRecDepth 20000 in
theorem ggL_execute_X9_execute : GoodIn wsL_execute wsX9_execute := goodIn_ca (goodIn_ca (goodIn_ca (goodIn_ca (goodIn_r _ [8, 9, 10, 11, 12, 13, 14, 15, 16, 17, 18, 19, 20, 21, 22, 23, 24, 25, 26, 27, 28, 29, 30, 31, 32, 33, 34, 35, 36, 37, 38, 39, 40, 41, 42, 43, 44, 45, 46, 47, 48, 49, 50, 51, 52, 53, 54, 55, 56, 57, 58, 59, 60, 61, 62, 63, 64, 65, 66, 67, 68, 69, 70, 71, 72, 73, 74, 75, 76, 77, 78, 79, 80, 81, 82, 83, 84, 85, 86, 87, 88, 89, 90, 91, 92, 93, 94, 95, 96, 97, 98, 99, 100, 101, 102, 103, 104, 105, 106, 107, 108, 109, 110, 111, 112, 113, 114, 115, 116, 117, 118, 119, 120, 121, 122, 123, 124, 125, 126, 127, 128, 129, 130, 131, 132, 133, 134, 135, 136, 137, 138, 139, 140, 141, 142, 143, 144, 145, 146, 147, 148, 149, 150, 151, 152, 153, 154, 155, 156, 157, 158, 159, 160, 161, 7, 162, 163, 164, 165, 166, 167, 168, 169, 170, 171, 172, 173, 174, 175, 176, 177, 178, 179, 180, 181, 182, 183, 184, 185, 186, 187, 188, 189, 190, 191, 192, 193, 194, 195, 196, 197, 198, 199, 200, 201, 202, 203, 204, 205, 206, 207, 208, 209, 210, 211, 212, 213, 214, 215, 216, 217, 218, 219, 220, 221, 222, 223, 224, 225, 226, 227, 228, 229, 230, 231, 232, 233, 234, 235, 236, 237, 238, 239, 240, 241, 242, 243, 244, 245, 246, 247, 248, 249, 250, 251, 252, 253, 254, 255, 256, 257, 258, 259, 260, 261, 262, 263, 264, 265, 266, 267, 268, 269, 270, 271, 272, 273, 274, 275, 276, 277, 278, 279, 280, 281, 282, 283, 284, 285, 286, 287, 288, 289, 290, 291, 292, 293, 294, 295, 296, 297, 298, 299, 300, 301, 302, 303, 304, 305, 306, 307, 308, 309, 310, 311, 312, 313, 314, 315, 316, 317, 318, 319, 320, 321, 322, 323, 324, 325, 326, 327, 328, 329, 330, 331, 332, 333, 334, 335, 336, 337, 338, 339, 340, 341, 342, 343, 344, 345, 346, 347, 348, 349, 350, 351, 352, 353, 354, 355, 356, 357, 358, 359, 360, 361, 362, 363, 364, 365, 366, 367, 368, 369, 370, 371, 372, 373, 374, 375, 376, 377, 378, 379, 380, 381, 382, 383, 384, 385, 386, 387, 388, 389, 390, 391, 392, 393, 394, 395, 396, 397, 398, 399, 400, 401, 402, 403, 404, 405] (by decide +kernel) (by decide +kernel)) (goodIn_sub (fun _ h => List.mem_cons_of_mem _ (List.mem_append_left _ (List.mem_append_left _ (List.mem_append_right _ h)))) (by decide +kernel))) (goodIn_sub (fun _ h => List.mem_cons_of_mem _ (List.mem_append_left _ (List.mem_append_left _ (List.mem_append_left _ (List.mem_append_right _ h))))) (by decide +kernel))) (goodIn_sub (fun _ h => List.mem_cons_of_mem _ (List.mem_append_left _ (List.mem_append_right _ h))) (by decide +kernel))) (goodIn_sub (fun _ h => List.mem_cons_of_mem _ (List.mem_append_right _ h)) (by decide +kernel))
set_option maxRecDepth 20000 in
theorem gL_execute_X9_execute : GoodIn wsL_execute (wsV RL 169 RX9 yX9_execute wsX9_execute) := goodIn_app (goodIn_of _ (by decide +kernel)) ggL_execute_X9_execute
theorem dL_execute_0 : decode cL_execute 0 = .ok (.aload_n 1, 1) := by decide +kernel
theorem dL_execute_1 : decode cL_execute 1 = .ok (.iconst 0, 1) := by decide +kernel
theorem dL_execute_2 : decode cL_execute 2 = .ok (.aload_n 0, 1) := by decide +kernel
theorem dL_execute_3 : decode cL_execute 3 = .ok (.invokevirtual 169, 3) := by decide +kernel
theorem dL_execute_6 : decode cL_execute 6 = .ok (.i2l, 1) := by decide +kernel
theorem dL_execute_7 : decode cL_execute 7 = .ok (.lastore, 1) := by decide +kernel
theorem dL_execute_8 : decode cL_execute 8 = .ok (.goto 12, 3) := by decide +kernel
theorem dL_execute_11 : decode cL_execute 11 = .ok (.astore_n 2, 1) := by decide +kernel
theorem dL_execute_12 : decode cL_execute 12 = .ok (.iconst 1, 1) := by decide +kernel
theorem dL_execute_13 : decode cL_execute 13 = .ok (.ireturn, 1) := by decide +kernel
theorem dL_execute_14 : decode cL_execute 14 = .ok (.astore_n 2, 1) := by decide +kernel
theorem dL_execute_15 : decode cL_execute 15 = .ok (.iconst 2, 1) := by decide +kernel
theorem dL_execute_16 : decode cL_execute 16 = .ok (.ireturn, 1) := by decide +kernel
theorem dL_execute_17 : decode cL_execute 17 = .ok (.astore_n 2, 1) := by decide +kernel
theorem dL_execute_18 : decode cL_execute 18 = .ok (.iconst 3, 1) := by decide +kernel
theorem dL_execute_19 : decode cL_execute 19 = .ok (.ireturn, 1) := by decide +kernel
theorem dL_execute_20 : decode cL_execute 20 = .ok (.iconst 0, 1) := by decide +kernel
theorem dL_execute_21 : decode cL_execute 21 = .ok (.ireturn, 1) := by decide +kernel
set_option maxRecDepth 20000 in
theorem ggL_syntaxErrorOffset_X9_syntaxErrorOffset : GoodIn wsL_syntaxErrorOffset wsX9_syntaxErrorOffset := goodIn_ca (goodIn_r _ [6, 7, 8, 9, 10, 11, 12, 13, 14, 15, 16, 17, 18, 19] (by decide +kernel) (by decide +kernel)) (goodIn_sub (fun _ h => List.mem_cons_of_mem _ (List.mem_append_right _ h)) (by decide +kernel))
set_option maxRecDepth 20000 in
theorem gL_syntaxErrorOffset_X9_syntaxErrorOffset : GoodIn wsL_syntaxErrorOffset (wsV RL 173 RX9 yX9_syntaxErrorOffset wsX9_syntaxErrorOffset) := goodIn_app (goodIn_of _ (by decide +kernel)) ggL_syntaxErrorOffset_X9_syntaxErrorOffset
theorem dL_syntaxErrorOffset_0 : decode cL_syntaxErrorOffset 0 = .ok (.aload_n 1, 1) := by decide +kernel
theorem dL_syntaxErrorOffset_1 : decode cL_syntaxErrorOffset 1 = .ok (.iconst 0, 1) := by decide +kernel
theorem dL_syntaxErrorOffset_2 : decode cL_syntaxErrorOffset 2 = .ok (.aload_n 0, 1) := by decide +kernel
theorem dL_syntaxErrorOffset_3 : decode cL_syntaxErrorOffset 3 = .ok (.invokevirtual 173, 3) := by decide +kernel
theorem dL_syntaxErrorOffset_6 : decode cL_syntaxErrorOffset 6 = .ok (.i2l, 1) := by decide +kernel
theorem dL_syntaxErrorOffset_7 : decode cL_syntaxErrorOffset 7 = .ok (.lastore, 1) := by decide +kernel
theorem dL_syntaxErrorOffset_8 : decode cL_syntaxErrorOffset 8 = .ok (.goto 6, 3) := by decide +kernel
theorem dL_syntaxErrorOffset_11 : decode cL_syntaxErrorOffset 11 = .ok (.astore_n 2, 1) := by decide +kernel
theorem dL_syntaxErrorOffset_12 : decode cL_syntaxErrorOffset 12 = .ok (.iconst 1, 1) := by decide +kernel
theorem dL_syntaxErrorOffset_13 : decode cL_syntaxErrorOffset 13 = .ok (.ireturn, 1) := by decide +kernel
theorem dL_syntaxErrorOffset_14 : decode cL_syntaxErrorOffset 14 = .ok (.iconst 0, 1) := by decide +kernel
theorem dL_syntaxErrorOffset_15 : decode cL_syntaxErrorOffset 15 = .ok (.ireturn, 1) := by decide +kernel
set_option maxRecDepth 20000 in
theorem ggL_rejectionReason_X9_rejectionReason : GoodIn wsL_rejectionReason wsX9_rejectionReason := goodIn_ca (goodIn_r _ [6, 7, 8, 9, 10, 5, 11, 12, 13, 14, 15, 16, 17, 18, 19, 20, 21, 22, 23, 24, 25, 26] (by decide +kernel) (by decide +kernel)) (goodIn_sub (fun _ h => List.mem_cons_of_mem _ (List.mem_append_right _ h)) (by decide +kernel))
set_option maxRecDepth 20000 in
theorem gL_rejectionReason_X9_rejectionReason : GoodIn wsL_rejectionReason (wsV RL 176 RX9 yX9_rejectionReason wsX9_rejectionReason) := goodIn_app (goodIn_of _ (by decide +kernel)) ggL_rejectionReason_X9_rejectionReason
theorem dL_rejectionReason_0 : decode cL_rejectionReason 0 = .ok (.aload_n 1, 1) := by decide +kernel
theorem dL_rejectionReason_1 : decode cL_rejectionReason 1 = .ok (.iconst 0, 1) := by decide +kernel
theorem dL_rejectionReason_2 : decode cL_rejectionReason 2 = .ok (.aload_n 0, 1) := by decide +kernel
theorem dL_rejectionReason_3 : decode cL_rejectionReason 3 = .ok (.invokevirtual 176, 3) := by decide +kernel
theorem dL_rejectionReason_6 : decode cL_rejectionReason 6 = .ok (.i2l, 1) := by decide +kernel
theorem dL_rejectionReason_7 : decode cL_rejectionReason 7 = .ok (.lastore, 1) := by decide +kernel
theorem dL_rejectionReason_8 : decode cL_rejectionReason 8 = .ok (.goto 6, 3) := by decide +kernel
theorem dL_rejectionReason_11 : decode cL_rejectionReason 11 = .ok (.astore_n 2, 1) := by decide +kernel
theorem dL_rejectionReason_12 : decode cL_rejectionReason 12 = .ok (.iconst 1, 1) := by decide +kernel
theorem dL_rejectionReason_13 : decode cL_rejectionReason 13 = .ok (.ireturn, 1) := by decide +kernel
theorem dL_rejectionReason_14 : decode cL_rejectionReason 14 = .ok (.iconst 0, 1) := by decide +kernel
theorem dL_rejectionReason_15 : decode cL_rejectionReason 15 = .ok (.ireturn, 1) := by decide +kernel
set_option maxRecDepth 20000 in
theorem ggL_rejectionDetail_X9_rejectionDetail : GoodIn wsL_rejectionDetail wsX9_rejectionDetail := goodIn_ca (goodIn_r _ [6, 7, 8, 9, 10, 5, 11, 12, 13, 14, 15, 16, 17, 18, 19, 20, 21, 22, 23, 24, 25, 26] (by decide +kernel) (by decide +kernel)) (goodIn_sub (fun _ h => List.mem_cons_of_mem _ (List.mem_append_right _ h)) (by decide +kernel))
set_option maxRecDepth 20000 in
theorem gL_rejectionDetail_X9_rejectionDetail : GoodIn wsL_rejectionDetail (wsV RL 179 RX9 yX9_rejectionDetail wsX9_rejectionDetail) := goodIn_app (goodIn_of _ (by decide +kernel)) ggL_rejectionDetail_X9_rejectionDetail
theorem dL_rejectionDetail_0 : decode cL_rejectionDetail 0 = .ok (.aload_n 1, 1) := by decide +kernel
theorem dL_rejectionDetail_1 : decode cL_rejectionDetail 1 = .ok (.iconst 0, 1) := by decide +kernel
theorem dL_rejectionDetail_2 : decode cL_rejectionDetail 2 = .ok (.aload_n 0, 1) := by decide +kernel
theorem dL_rejectionDetail_3 : decode cL_rejectionDetail 3 = .ok (.invokevirtual 179, 3) := by decide +kernel
theorem dL_rejectionDetail_6 : decode cL_rejectionDetail 6 = .ok (.i2l, 1) := by decide +kernel
theorem dL_rejectionDetail_7 : decode cL_rejectionDetail 7 = .ok (.lastore, 1) := by decide +kernel
theorem dL_rejectionDetail_8 : decode cL_rejectionDetail 8 = .ok (.goto 6, 3) := by decide +kernel
theorem dL_rejectionDetail_11 : decode cL_rejectionDetail 11 = .ok (.astore_n 2, 1) := by decide +kernel
theorem dL_rejectionDetail_12 : decode cL_rejectionDetail 12 = .ok (.iconst 1, 1) := by decide +kernel
theorem dL_rejectionDetail_13 : decode cL_rejectionDetail 13 = .ok (.ireturn, 1) := by decide +kernel
theorem dL_rejectionDetail_14 : decode cL_rejectionDetail 14 = .ok (.iconst 0, 1) := by decide +kernel
theorem dL_rejectionDetail_15 : decode cL_rejectionDetail 15 = .ok (.ireturn, 1) := by decide +kernel
set_option maxRecDepth 20000 in
theorem ggL_causeReason_X9_causeReason : GoodIn wsL_causeReason wsX9_causeReason := goodIn_ca (goodIn_r _ [6, 7, 8, 9, 10, 11, 5, 12, 13, 14, 15, 16, 17, 18, 19, 20, 21, 22, 23, 24, 25, 26, 27] (by decide +kernel) (by decide +kernel)) (goodIn_sub (fun _ h => List.mem_cons_of_mem _ (List.mem_append_right _ h)) (by decide +kernel))
set_option maxRecDepth 20000 in
theorem gL_causeReason_X9_causeReason : GoodIn wsL_causeReason (wsV RL 182 RX9 yX9_causeReason wsX9_causeReason) := goodIn_app (goodIn_of _ (by decide +kernel)) ggL_causeReason_X9_causeReason
theorem dL_causeReason_0 : decode cL_causeReason 0 = .ok (.aload_n 1, 1) := by decide +kernel
theorem dL_causeReason_1 : decode cL_causeReason 1 = .ok (.iconst 0, 1) := by decide +kernel
theorem dL_causeReason_2 : decode cL_causeReason 2 = .ok (.aload_n 0, 1) := by decide +kernel
theorem dL_causeReason_3 : decode cL_causeReason 3 = .ok (.invokevirtual 182, 3) := by decide +kernel
theorem dL_causeReason_6 : decode cL_causeReason 6 = .ok (.i2l, 1) := by decide +kernel
theorem dL_causeReason_7 : decode cL_causeReason 7 = .ok (.lastore, 1) := by decide +kernel
theorem dL_causeReason_8 : decode cL_causeReason 8 = .ok (.goto 6, 3) := by decide +kernel
theorem dL_causeReason_11 : decode cL_causeReason 11 = .ok (.astore_n 2, 1) := by decide +kernel
theorem dL_causeReason_12 : decode cL_causeReason 12 = .ok (.iconst 1, 1) := by decide +kernel
theorem dL_causeReason_13 : decode cL_causeReason 13 = .ok (.ireturn, 1) := by decide +kernel
theorem dL_causeReason_14 : decode cL_causeReason 14 = .ok (.iconst 0, 1) := by decide +kernel
theorem dL_causeReason_15 : decode cL_causeReason 15 = .ok (.ireturn, 1) := by decide +kernel
set_option maxRecDepth 20000 in
theorem ggL_causeDetail_X9_causeDetail : GoodIn wsL_causeDetail wsX9_causeDetail := goodIn_ca (goodIn_r _ [6, 7, 8, 9, 10, 11, 5, 12, 13, 14, 15, 16, 17, 18, 19, 20, 21, 22, 23, 24, 25, 26, 27] (by decide +kernel) (by decide +kernel)) (goodIn_sub (fun _ h => List.mem_cons_of_mem _ (List.mem_append_right _ h)) (by decide +kernel))
set_option maxRecDepth 20000 in
theorem gL_causeDetail_X9_causeDetail : GoodIn wsL_causeDetail (wsV RL 185 RX9 yX9_causeDetail wsX9_causeDetail) := goodIn_app (goodIn_of _ (by decide +kernel)) ggL_causeDetail_X9_causeDetail
theorem dL_causeDetail_0 : decode cL_causeDetail 0 = .ok (.aload_n 1, 1) := by decide +kernel
theorem dL_causeDetail_1 : decode cL_causeDetail 1 = .ok (.iconst 0, 1) := by decide +kernel
theorem dL_causeDetail_2 : decode cL_causeDetail 2 = .ok (.aload_n 0, 1) := by decide +kernel
theorem dL_causeDetail_3 : decode cL_causeDetail 3 = .ok (.invokevirtual 185, 3) := by decide +kernel
theorem dL_causeDetail_6 : decode cL_causeDetail 6 = .ok (.i2l, 1) := by decide +kernel
theorem dL_causeDetail_7 : decode cL_causeDetail 7 = .ok (.lastore, 1) := by decide +kernel
theorem dL_causeDetail_8 : decode cL_causeDetail 8 = .ok (.goto 6, 3) := by decide +kernel
theorem dL_causeDetail_11 : decode cL_causeDetail 11 = .ok (.astore_n 2, 1) := by decide +kernel
theorem dL_causeDetail_12 : decode cL_causeDetail 12 = .ok (.iconst 1, 1) := by decide +kernel
theorem dL_causeDetail_13 : decode cL_causeDetail 13 = .ok (.ireturn, 1) := by decide +kernel
theorem dL_causeDetail_14 : decode cL_causeDetail 14 = .ok (.iconst 0, 1) := by decide +kernel
theorem dL_causeDetail_15 : decode cL_causeDetail 15 = .ok (.ireturn, 1) := by decide +kernel
set_option maxRecDepth 20000 in
theorem ggL_undo_X9_undo : GoodIn wsL_undo wsX9_undo := goodIn_ca (goodIn_r _ [6, 7, 8, 9, 10, 11, 12, 13, 14, 15, 16, 17, 18, 19, 20, 21, 22, 23, 24, 25, 26, 27, 28, 29, 30, 31, 32, 33, 34, 35, 36, 37, 38, 39, 40, 41, 42, 43, 44, 45, 46, 47, 48, 49, 50, 51, 52, 53, 54, 55, 56, 57, 58, 59, 60, 61, 62, 63, 64, 65, 66, 67, 68, 69, 70, 71, 72, 73, 74, 75, 76, 77, 78, 79, 80, 81, 82, 83, 84, 85, 86, 87, 88, 89] (by decide +kernel) (by decide +kernel)) (goodIn_sub (fun _ h => List.mem_cons_of_mem _ (List.mem_append_right _ h)) (by decide +kernel))
set_option maxRecDepth 20000 in
theorem gL_undo_X9_undo : GoodIn wsL_undo (wsV RL 188 RX9 yX9_undo wsX9_undo) := goodIn_app (goodIn_of _ (by decide +kernel)) ggL_undo_X9_undo
theorem dL_undo_0 : decode cL_undo 0 = .ok (.aload_n 1, 1) := by decide +kernel
theorem dL_undo_1 : decode cL_undo 1 = .ok (.iconst 0, 1) := by decide +kernel
theorem dL_undo_2 : decode cL_undo 2 = .ok (.aload_n 0, 1) := by decide +kernel
theorem dL_undo_3 : decode cL_undo 3 = .ok (.invokevirtual 188, 3) := by decide +kernel
theorem dL_undo_6 : decode cL_undo 6 = .ok (.i2l, 1) := by decide +kernel
theorem dL_undo_7 : decode cL_undo 7 = .ok (.lastore, 1) := by decide +kernel
theorem dL_undo_8 : decode cL_undo 8 = .ok (.goto 6, 3) := by decide +kernel
theorem dL_undo_11 : decode cL_undo 11 = .ok (.astore_n 2, 1) := by decide +kernel
theorem dL_undo_12 : decode cL_undo 12 = .ok (.iconst 1, 1) := by decide +kernel
theorem dL_undo_13 : decode cL_undo 13 = .ok (.ireturn, 1) := by decide +kernel
theorem dL_undo_14 : decode cL_undo 14 = .ok (.iconst 0, 1) := by decide +kernel
theorem dL_undo_15 : decode cL_undo 15 = .ok (.ireturn, 1) := by decide +kernel
set_option maxRecDepth 20000 in
theorem ggL_restoreSnapshot_X9_restoreSnapshot : GoodIn wsL_restoreSnapshot wsX9_restoreSnapshot := goodIn_ca (goodIn_r _ [6, 7, 8, 9, 10, 11, 12, 13, 14, 15, 16, 17, 18, 19, 20, 21, 22, 23, 24, 25, 26, 27, 28, 29, 30, 31, 32, 33, 34, 35, 36, 37, 38, 39, 40, 41, 42, 43, 44, 45, 46, 47, 48, 49, 50, 51, 52, 53, 54, 55, 56, 57, 58, 59, 60, 61, 62, 63, 64, 65, 66, 67, 68, 69, 70, 71, 72, 73, 74, 75, 76, 77, 78, 79, 80, 81, 82, 83, 84, 85, 86, 87, 88, 89, 90, 91, 92, 93, 94, 95] (by decide +kernel) (by decide +kernel)) (goodIn_sub (fun _ h => List.mem_cons_of_mem _ (List.mem_append_right _ h)) (by decide +kernel))
set_option maxRecDepth 20000 in
theorem gL_restoreSnapshot_X9_restoreSnapshot : GoodIn wsL_restoreSnapshot (wsV RL 191 RX9 yX9_restoreSnapshot wsX9_restoreSnapshot) := goodIn_app (goodIn_of _ (by decide +kernel)) ggL_restoreSnapshot_X9_restoreSnapshot
theorem dL_restoreSnapshot_0 : decode cL_restoreSnapshot 0 = .ok (.aload_n 1, 1) := by decide +kernel
theorem dL_restoreSnapshot_1 : decode cL_restoreSnapshot 1 = .ok (.iconst 0, 1) := by decide +kernel
theorem dL_restoreSnapshot_2 : decode cL_restoreSnapshot 2 = .ok (.aload_n 0, 1) := by decide +kernel
theorem dL_restoreSnapshot_3 : decode cL_restoreSnapshot 3 = .ok (.invokevirtual 191, 3) := by decide +kernel
theorem dL_restoreSnapshot_6 : decode cL_restoreSnapshot 6 = .ok (.i2l, 1) := by decide +kernel
theorem dL_restoreSnapshot_7 : decode cL_restoreSnapshot 7 = .ok (.lastore, 1) := by decide +kernel
theorem dL_restoreSnapshot_8 : decode cL_restoreSnapshot 8 = .ok (.goto 6, 3) := by decide +kernel
theorem dL_restoreSnapshot_11 : decode cL_restoreSnapshot 11 = .ok (.astore_n 2, 1) := by decide +kernel
theorem dL_restoreSnapshot_12 : decode cL_restoreSnapshot 12 = .ok (.iconst 1, 1) := by decide +kernel
theorem dL_restoreSnapshot_13 : decode cL_restoreSnapshot 13 = .ok (.ireturn, 1) := by decide +kernel
theorem dL_restoreSnapshot_14 : decode cL_restoreSnapshot 14 = .ok (.iconst 0, 1) := by decide +kernel
theorem dL_restoreSnapshot_15 : decode cL_restoreSnapshot 15 = .ok (.ireturn, 1) := by decide +kernel
