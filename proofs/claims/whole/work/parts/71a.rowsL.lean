set_option maxRecDepth 20000 in
theorem ggL_addTrack_X9_addTrack : GoodIn wsL_addTrack wsX9_addTrack := goodIn_ca (goodIn_ca (goodIn_r _ [7, 8, 9, 10, 11, 12, 13, 6, 14, 15, 16, 17, 18, 19, 20, 21, 22, 23, 24, 25, 26, 27, 28, 29, 30, 31, 32, 33, 34, 35, 36, 37, 38, 39, 40, 41, 42, 43, 44, 45, 46, 47, 48, 49, 50, 51, 52, 53, 54, 55, 56, 57, 58, 59, 60, 61, 62, 63, 64, 65, 66, 67, 68, 69, 70, 71, 72, 73, 74, 75, 76, 77, 78, 79, 80, 81, 82, 83, 84, 85, 86, 87, 88, 89, 90, 91, 92, 93, 94, 95, 96, 97, 98, 99, 100, 101, 102, 103, 104, 105, 106, 107, 108, 109, 110, 111, 112, 113, 114, 115, 116, 117, 118, 119, 120, 121, 122, 123, 124, 125, 126, 127, 128, 129] (by decide +kernel) (by decide +kernel)) (goodIn_sub (fun _ h => List.mem_cons_of_mem _ (List.mem_append_left _ (List.mem_append_right _ h))) (by decide +kernel))) (goodIn_sub (fun _ h => List.mem_cons_of_mem _ (List.mem_append_right _ h)) (by decide +kernel))
set_option maxRecDepth 20000 in
theorem gL_addTrack_X9_addTrack : GoodIn wsL_addTrack (wsV RL 7 RX9 yX9_addTrack wsX9_addTrack) := goodIn_app (goodIn_of _ (by decide +kernel)) ggL_addTrack_X9_addTrack
theorem dL_addTrack_0 : decode cL_addTrack 0 = .ok (.aload_n 2, 1) := by decide +kernel
theorem dL_addTrack_1 : decode cL_addTrack 1 = .ok (.iconst 0, 1) := by decide +kernel
theorem dL_addTrack_2 : decode cL_addTrack 2 = .ok (.aload_n 0, 1) := by decide +kernel
theorem dL_addTrack_3 : decode cL_addTrack 3 = .ok (.iload_n 1, 1) := by decide +kernel
theorem dL_addTrack_4 : decode cL_addTrack 4 = .ok (.invokevirtual 7, 3) := by decide +kernel
theorem dL_addTrack_7 : decode cL_addTrack 7 = .ok (.i2l, 1) := by decide +kernel
theorem dL_addTrack_8 : decode cL_addTrack 8 = .ok (.lastore, 1) := by decide +kernel
theorem dL_addTrack_9 : decode cL_addTrack 9 = .ok (.goto 9, 3) := by decide +kernel
theorem dL_addTrack_12 : decode cL_addTrack 12 = .ok (.astore_n 3, 1) := by decide +kernel
theorem dL_addTrack_13 : decode cL_addTrack 13 = .ok (.iconst 1, 1) := by decide +kernel
theorem dL_addTrack_14 : decode cL_addTrack 14 = .ok (.ireturn, 1) := by decide +kernel
theorem dL_addTrack_15 : decode cL_addTrack 15 = .ok (.astore_n 3, 1) := by decide +kernel
theorem dL_addTrack_16 : decode cL_addTrack 16 = .ok (.iconst 2, 1) := by decide +kernel
theorem dL_addTrack_17 : decode cL_addTrack 17 = .ok (.ireturn, 1) := by decide +kernel
theorem dL_addTrack_18 : decode cL_addTrack 18 = .ok (.iconst 0, 1) := by decide +kernel
theorem dL_addTrack_19 : decode cL_addTrack 19 = .ok (.ireturn, 1) := by decide +kernel
set_option maxRecDepth 20000 in
theorem ggL_removeTrack_X9_removeTrack : GoodIn wsL_removeTrack wsX9_removeTrack := goodIn_ca (goodIn_r _ [6, 7, 8, 9, 10, 11, 5, 12, 13, 14, 15, 16, 17, 18, 19, 20, 21, 22, 23, 24, 25, 26, 27, 28, 29, 30, 31, 32, 33, 34, 35, 36, 37, 38, 39, 40, 41, 42, 43, 44, 45, 46, 47, 48, 49, 50, 51, 52, 53, 54, 55, 56, 57, 58, 59, 60, 61, 62, 63, 64, 65, 66, 67, 68, 69, 70, 71, 72, 73, 74, 75, 76, 77, 78, 79, 80, 81, 82, 83, 84, 85, 86, 87, 88, 89, 90, 91, 92, 93, 94, 95, 96, 97, 98, 99, 100, 101, 102, 103, 104, 105, 106, 107] (by decide +kernel) (by decide +kernel)) (goodIn_sub (fun _ h => List.mem_cons_of_mem _ (List.mem_append_right _ h)) (by decide +kernel))
set_option maxRecDepth 20000 in
theorem gL_removeTrack_X9_removeTrack : GoodIn wsL_removeTrack (wsV RL 17 RX9 yX9_removeTrack wsX9_removeTrack) := goodIn_app (goodIn_of _ (by decide +kernel)) ggL_removeTrack_X9_removeTrack
theorem dL_removeTrack_0 : decode cL_removeTrack 0 = .ok (.aload_n 2, 1) := by decide +kernel
theorem dL_removeTrack_1 : decode cL_removeTrack 1 = .ok (.iconst 0, 1) := by decide +kernel
theorem dL_removeTrack_2 : decode cL_removeTrack 2 = .ok (.aload_n 0, 1) := by decide +kernel
theorem dL_removeTrack_3 : decode cL_removeTrack 3 = .ok (.iload_n 1, 1) := by decide +kernel
theorem dL_removeTrack_4 : decode cL_removeTrack 4 = .ok (.invokevirtual 17, 3) := by decide +kernel
theorem dL_removeTrack_7 : decode cL_removeTrack 7 = .ok (.i2l, 1) := by decide +kernel
theorem dL_removeTrack_8 : decode cL_removeTrack 8 = .ok (.lastore, 1) := by decide +kernel
theorem dL_removeTrack_9 : decode cL_removeTrack 9 = .ok (.goto 6, 3) := by decide +kernel
theorem dL_removeTrack_12 : decode cL_removeTrack 12 = .ok (.astore_n 3, 1) := by decide +kernel
theorem dL_removeTrack_13 : decode cL_removeTrack 13 = .ok (.iconst 1, 1) := by decide +kernel
theorem dL_removeTrack_14 : decode cL_removeTrack 14 = .ok (.ireturn, 1) := by decide +kernel
theorem dL_removeTrack_15 : decode cL_removeTrack 15 = .ok (.iconst 0, 1) := by decide +kernel
theorem dL_removeTrack_16 : decode cL_removeTrack 16 = .ok (.ireturn, 1) := by decide +kernel
set_option maxRecDepth 20000 in
theorem ggL_addPrint_X9_addPrint : GoodIn wsL_addPrint wsX9_addPrint := goodIn_ca (goodIn_ca (goodIn_ca (goodIn_r _ [8, 9, 10, 11, 12, 13, 14, 15, 7, 16, 17, 18, 19, 20, 21, 22, 23, 24, 25, 26, 27, 28, 29, 30, 31, 32, 33, 34, 35, 36, 37, 38, 39, 40, 41, 42, 43, 44, 45, 46, 47, 48, 49, 50, 51, 52, 53, 54, 55, 56, 57, 58, 59, 60, 61, 62, 63, 64, 65, 66, 67, 68, 69, 70, 71, 72, 73, 74, 75, 76, 77, 78, 79, 80, 81, 82, 83, 84, 85, 86, 87, 88, 89, 90, 91, 92, 93, 94, 95, 96, 97, 98, 99, 100, 101, 102, 103, 104, 105, 106, 107, 108, 109, 110, 111, 112, 113, 114, 115, 116, 117, 118, 119, 120, 121, 122, 123, 124, 125, 126, 127, 128, 129, 130, 131, 132, 133, 134, 135, 136, 137, 138, 139, 140, 141, 142, 143, 144, 145, 146, 147, 148, 149, 150, 151, 152, 153, 154, 155, 156, 157, 158, 159, 160, 161, 162, 163, 164, 165, 166, 167, 168, 169, 170, 171, 172, 173, 174, 175, 176, 177, 178, 179, 180, 181, 182, 183, 184, 185, 186, 187, 188, 189] (by decide +kernel) (by decide +kernel)) (goodIn_sub (fun _ h => List.mem_cons_of_mem _ (List.mem_append_left _ (List.mem_append_left _ (List.mem_append_right _ h)))) (by decide +kernel))) (goodIn_sub (fun _ h => List.mem_cons_of_mem _ (List.mem_append_left _ (List.mem_append_right _ h))) (by decide +kernel))) (goodIn_sub (fun _ h => List.mem_cons_of_mem _ (List.mem_append_right _ h)) (by decide +kernel))
set_option maxRecDepth 20000 in
theorem gL_addPrint_X9_addPrint : GoodIn wsL_addPrint (wsV RL 22 RX9 yX9_addPrint wsX9_addPrint) := goodIn_app (goodIn_of _ (by decide +kernel)) ggL_addPrint_X9_addPrint
theorem dL_addPrint_0 : decode cL_addPrint 0 = .ok (.aload 7, 2) := by decide +kernel
theorem dL_addPrint_2 : decode cL_addPrint 2 = .ok (.iconst 0, 1) := by decide +kernel
theorem dL_addPrint_3 : decode cL_addPrint 3 = .ok (.aload_n 0, 1) := by decide +kernel
theorem dL_addPrint_4 : decode cL_addPrint 4 = .ok (.iload_n 1, 1) := by decide +kernel
theorem dL_addPrint_5 : decode cL_addPrint 5 = .ok (.iload_n 2, 1) := by decide +kernel
theorem dL_addPrint_6 : decode cL_addPrint 6 = .ok (.iload_n 3, 1) := by decide +kernel
theorem dL_addPrint_7 : decode cL_addPrint 7 = .ok (.iload 4, 2) := by decide +kernel
theorem dL_addPrint_9 : decode cL_addPrint 9 = .ok (.iload 5, 2) := by decide +kernel
theorem dL_addPrint_11 : decode cL_addPrint 11 = .ok (.iload 6, 2) := by decide +kernel
theorem dL_addPrint_13 : decode cL_addPrint 13 = .ok (.invokevirtual 22, 3) := by decide +kernel
theorem dL_addPrint_16 : decode cL_addPrint 16 = .ok (.i2l, 1) := by decide +kernel
theorem dL_addPrint_17 : decode cL_addPrint 17 = .ok (.lastore, 1) := by decide +kernel
theorem dL_addPrint_18 : decode cL_addPrint 18 = .ok (.goto 15, 3) := by decide +kernel
theorem dL_addPrint_21 : decode cL_addPrint 21 = .ok (.astore 8, 2) := by decide +kernel
theorem dL_addPrint_23 : decode cL_addPrint 23 = .ok (.iconst 1, 1) := by decide +kernel
theorem dL_addPrint_24 : decode cL_addPrint 24 = .ok (.ireturn, 1) := by decide +kernel
theorem dL_addPrint_25 : decode cL_addPrint 25 = .ok (.astore 8, 2) := by decide +kernel
theorem dL_addPrint_27 : decode cL_addPrint 27 = .ok (.iconst 2, 1) := by decide +kernel
theorem dL_addPrint_28 : decode cL_addPrint 28 = .ok (.ireturn, 1) := by decide +kernel
theorem dL_addPrint_29 : decode cL_addPrint 29 = .ok (.astore 8, 2) := by decide +kernel
theorem dL_addPrint_31 : decode cL_addPrint 31 = .ok (.iconst 3, 1) := by decide +kernel
theorem dL_addPrint_32 : decode cL_addPrint 32 = .ok (.ireturn, 1) := by decide +kernel
theorem dL_addPrint_33 : decode cL_addPrint 33 = .ok (.iconst 0, 1) := by decide +kernel
theorem dL_addPrint_34 : decode cL_addPrint 34 = .ok (.ireturn, 1) := by decide +kernel
set_option maxRecDepth 20000 in
theorem ggL_removePrint_X9_removePrint : GoodIn wsL_removePrint wsX9_removePrint := goodIn_ca (goodIn_r _ [6, 7, 8, 9, 10, 11, 12, 5, 13, 14, 15, 16, 17, 18, 19, 20, 21, 22, 23, 24, 25, 26, 27, 28, 29, 30, 31, 32, 33, 34, 35, 36, 37, 38, 39, 40, 41, 42, 43, 44, 45, 46, 47, 48, 49, 50, 51, 52, 53, 54, 55, 56, 57, 58, 59, 60, 61, 62, 63, 64, 65, 66, 67, 68, 69, 70, 71, 72, 73, 74, 75, 76, 77, 78, 79, 80, 81, 82, 83, 84, 85, 86, 87, 88, 89, 90, 91, 92, 93, 94, 95, 96, 97, 98, 99, 100, 101, 102, 103] (by decide +kernel) (by decide +kernel)) (goodIn_sub (fun _ h => List.mem_cons_of_mem _ (List.mem_append_right _ h)) (by decide +kernel))
set_option maxRecDepth 20000 in
theorem gL_removePrint_X9_removePrint : GoodIn wsL_removePrint (wsV RL 26 RX9 yX9_removePrint wsX9_removePrint) := goodIn_app (goodIn_of _ (by decide +kernel)) ggL_removePrint_X9_removePrint
theorem dL_removePrint_0 : decode cL_removePrint 0 = .ok (.aload_n 2, 1) := by decide +kernel
theorem dL_removePrint_1 : decode cL_removePrint 1 = .ok (.iconst 0, 1) := by decide +kernel
theorem dL_removePrint_2 : decode cL_removePrint 2 = .ok (.aload_n 0, 1) := by decide +kernel
theorem dL_removePrint_3 : decode cL_removePrint 3 = .ok (.iload_n 1, 1) := by decide +kernel
theorem dL_removePrint_4 : decode cL_removePrint 4 = .ok (.invokevirtual 26, 3) := by decide +kernel
theorem dL_removePrint_7 : decode cL_removePrint 7 = .ok (.i2l, 1) := by decide +kernel
theorem dL_removePrint_8 : decode cL_removePrint 8 = .ok (.lastore, 1) := by decide +kernel
theorem dL_removePrint_9 : decode cL_removePrint 9 = .ok (.goto 6, 3) := by decide +kernel
theorem dL_removePrint_12 : decode cL_removePrint 12 = .ok (.astore_n 3, 1) := by decide +kernel
theorem dL_removePrint_13 : decode cL_removePrint 13 = .ok (.iconst 1, 1) := by decide +kernel
theorem dL_removePrint_14 : decode cL_removePrint 14 = .ok (.ireturn, 1) := by decide +kernel
theorem dL_removePrint_15 : decode cL_removePrint 15 = .ok (.iconst 0, 1) := by decide +kernel
theorem dL_removePrint_16 : decode cL_removePrint 16 = .ok (.ireturn, 1) := by decide +kernel
set_option maxRecDepth 20000 in
theorem ggL_correctHeel_X9_correctHeel : GoodIn wsL_correctHeel wsX9_correctHeel := goodIn_ca (goodIn_ca (goodIn_r _ [7, 8, 9, 10, 11, 12, 6, 13, 14, 15, 16, 17, 18, 19, 20, 21, 22, 23, 24, 25, 26, 27, 28, 29, 30, 31, 32, 33, 34, 35, 36, 37, 38, 39, 40, 41, 42, 43, 44, 45, 46, 47, 48, 49, 50, 51, 52, 53, 54, 55, 56, 57, 58, 59, 60, 61, 62, 63, 64, 65, 66, 67, 68, 69, 70, 71, 72, 73, 74, 75, 76, 77, 78, 79, 80, 81, 82, 83, 84, 85, 86, 87, 88, 89, 90, 91, 92, 93, 94, 95, 96, 97, 98, 99, 100, 101, 102, 103, 104, 105, 106, 107, 108, 109, 110, 111, 112, 113, 114, 115, 116, 117, 118, 119, 120, 121, 122, 123, 124, 125, 126, 127, 128, 129, 130, 131, 132, 133, 134, 135, 136, 137, 138, 139, 140, 141, 142, 143, 144, 145, 146, 147, 148, 149, 150, 151, 152, 153, 154, 155, 156, 157, 158, 159] (by decide +kernel) (by decide +kernel)) (goodIn_sub (fun _ h => List.mem_cons_of_mem _ (List.mem_append_left _ (List.mem_append_right _ h))) (by decide +kernel))) (goodIn_sub (fun _ h => List.mem_cons_of_mem _ (List.mem_append_right _ h)) (by decide +kernel))
set_option maxRecDepth 20000 in
theorem gL_correctHeel_X9_correctHeel : GoodIn wsL_correctHeel (wsV RL 29 RX9 yX9_correctHeel wsX9_correctHeel) := goodIn_app (goodIn_of _ (by decide +kernel)) ggL_correctHeel_X9_correctHeel
theorem dL_correctHeel_0 : decode cL_correctHeel 0 = .ok (.aload 4, 2) := by decide +kernel
theorem dL_correctHeel_2 : decode cL_correctHeel 2 = .ok (.iconst 0, 1) := by decide +kernel
theorem dL_correctHeel_3 : decode cL_correctHeel 3 = .ok (.aload_n 0, 1) := by decide +kernel
theorem dL_correctHeel_4 : decode cL_correctHeel 4 = .ok (.iload_n 1, 1) := by decide +kernel
theorem dL_correctHeel_5 : decode cL_correctHeel 5 = .ok (.iload_n 2, 1) := by decide +kernel
theorem dL_correctHeel_6 : decode cL_correctHeel 6 = .ok (.iload_n 3, 1) := by decide +kernel
theorem dL_correctHeel_7 : decode cL_correctHeel 7 = .ok (.invokevirtual 29, 3) := by decide +kernel
theorem dL_correctHeel_10 : decode cL_correctHeel 10 = .ok (.i2l, 1) := by decide +kernel
theorem dL_correctHeel_11 : decode cL_correctHeel 11 = .ok (.lastore, 1) := by decide +kernel
theorem dL_correctHeel_12 : decode cL_correctHeel 12 = .ok (.goto 11, 3) := by decide +kernel
theorem dL_correctHeel_15 : decode cL_correctHeel 15 = .ok (.astore 5, 2) := by decide +kernel
theorem dL_correctHeel_17 : decode cL_correctHeel 17 = .ok (.iconst 1, 1) := by decide +kernel
theorem dL_correctHeel_18 : decode cL_correctHeel 18 = .ok (.ireturn, 1) := by decide +kernel
theorem dL_correctHeel_19 : decode cL_correctHeel 19 = .ok (.astore 5, 2) := by decide +kernel
theorem dL_correctHeel_21 : decode cL_correctHeel 21 = .ok (.iconst 2, 1) := by decide +kernel
theorem dL_correctHeel_22 : decode cL_correctHeel 22 = .ok (.ireturn, 1) := by decide +kernel
theorem dL_correctHeel_23 : decode cL_correctHeel 23 = .ok (.iconst 0, 1) := by decide +kernel
theorem dL_correctHeel_24 : decode cL_correctHeel 24 = .ok (.ireturn, 1) := by decide +kernel
set_option maxRecDepth 20000 in
theorem ggL_swapFoot_X9_swapFoot : GoodIn wsL_swapFoot wsX9_swapFoot := goodIn_ca (goodIn_r _ [6, 7, 8, 9, 10, 11, 5, 12, 13, 14, 15, 16, 17, 18, 19, 20, 21, 22, 23, 24, 25, 26, 27, 28, 29, 30, 31, 32, 33, 34, 35, 36, 37, 38, 39, 40, 41, 42, 43, 44, 45, 46, 47, 48, 49, 50, 51, 52, 53, 54, 55, 56, 57, 58, 59, 60, 61, 62, 63, 64, 65, 66, 67, 68, 69, 70, 71, 72, 73, 74, 75, 76, 77, 78, 79, 80, 81, 82, 83, 84, 85, 86, 87, 88, 89, 90, 91, 92, 93, 94, 95, 96, 97, 98, 99, 100, 101, 102] (by decide +kernel) (by decide +kernel)) (goodIn_sub (fun _ h => List.mem_cons_of_mem _ (List.mem_append_right _ h)) (by decide +kernel))
set_option maxRecDepth 20000 in
theorem gL_swapFoot_X9_swapFoot : GoodIn wsL_swapFoot (wsV RL 33 RX9 yX9_swapFoot wsX9_swapFoot) := goodIn_app (goodIn_of _ (by decide +kernel)) ggL_swapFoot_X9_swapFoot
theorem dL_swapFoot_0 : decode cL_swapFoot 0 = .ok (.aload_n 2, 1) := by decide +kernel
theorem dL_swapFoot_1 : decode cL_swapFoot 1 = .ok (.iconst 0, 1) := by decide +kernel
theorem dL_swapFoot_2 : decode cL_swapFoot 2 = .ok (.aload_n 0, 1) := by decide +kernel
theorem dL_swapFoot_3 : decode cL_swapFoot 3 = .ok (.iload_n 1, 1) := by decide +kernel
theorem dL_swapFoot_4 : decode cL_swapFoot 4 = .ok (.invokevirtual 33, 3) := by decide +kernel
theorem dL_swapFoot_7 : decode cL_swapFoot 7 = .ok (.ifCond .eq 7, 3) := by decide +kernel
theorem dL_swapFoot_10 : decode cL_swapFoot 10 = .ok (.lconst 1, 1) := by decide +kernel
theorem dL_swapFoot_11 : decode cL_swapFoot 11 = .ok (.goto 4, 3) := by decide +kernel
theorem dL_swapFoot_14 : decode cL_swapFoot 14 = .ok (.lconst 0, 1) := by decide +kernel
theorem dL_swapFoot_15 : decode cL_swapFoot 15 = .ok (.lastore, 1) := by decide +kernel
theorem dL_swapFoot_16 : decode cL_swapFoot 16 = .ok (.goto 6, 3) := by decide +kernel
theorem dL_swapFoot_19 : decode cL_swapFoot 19 = .ok (.astore_n 3, 1) := by decide +kernel
theorem dL_swapFoot_20 : decode cL_swapFoot 20 = .ok (.iconst 1, 1) := by decide +kernel
theorem dL_swapFoot_21 : decode cL_swapFoot 21 = .ok (.ireturn, 1) := by decide +kernel
theorem dL_swapFoot_22 : decode cL_swapFoot 22 = .ok (.iconst 0, 1) := by decide +kernel
theorem dL_swapFoot_23 : decode cL_swapFoot 23 = .ok (.ireturn, 1) := by decide +kernel
set_option maxRecDepth 20000 in
theorem ggL_doubtToes_X9_doubtToes : GoodIn wsL_doubtToes wsX9_doubtToes := goodIn_ca (goodIn_ca (goodIn_r _ [7, 8, 9, 10, 11, 12, 6, 13, 14, 15, 16, 17, 18, 19, 20, 21, 22, 23, 24, 25, 26, 27, 28, 29, 30, 31, 32, 33, 34, 35, 36, 37, 38, 39, 40, 41, 42, 43, 44, 45, 46, 47, 48, 49, 50, 51, 52, 53, 54, 55, 56, 57, 58, 59, 60, 61, 62, 63, 64, 65, 66, 67, 68, 69, 70, 71, 72, 73, 74, 75, 76, 77, 78, 79, 80, 81, 82, 83, 84, 85, 86, 87, 88, 89, 90, 91, 92, 93, 94, 95, 96, 97, 98, 99, 100, 101, 102, 103, 104, 105, 106, 107, 108, 109, 110, 111, 112, 113, 114, 115, 116, 117, 118, 119, 120, 121, 122, 123, 124, 125, 126, 127, 128, 129, 130] (by decide +kernel) (by decide +kernel)) (goodIn_sub (fun _ h => List.mem_cons_of_mem _ (List.mem_append_left _ (List.mem_append_right _ h))) (by decide +kernel))) (goodIn_sub (fun _ h => List.mem_cons_of_mem _ (List.mem_append_right _ h)) (by decide +kernel))
set_option maxRecDepth 20000 in
theorem gL_doubtToes_X9_doubtToes : GoodIn wsL_doubtToes (wsV RL 37 RX9 yX9_doubtToes wsX9_doubtToes) := goodIn_app (goodIn_of _ (by decide +kernel)) ggL_doubtToes_X9_doubtToes
theorem dL_doubtToes_0 : decode cL_doubtToes 0 = .ok (.aload_n 2, 1) := by decide +kernel
theorem dL_doubtToes_1 : decode cL_doubtToes 1 = .ok (.iconst 0, 1) := by decide +kernel
theorem dL_doubtToes_2 : decode cL_doubtToes 2 = .ok (.aload_n 0, 1) := by decide +kernel
theorem dL_doubtToes_3 : decode cL_doubtToes 3 = .ok (.iload_n 1, 1) := by decide +kernel
theorem dL_doubtToes_4 : decode cL_doubtToes 4 = .ok (.invokevirtual 37, 3) := by decide +kernel
theorem dL_doubtToes_7 : decode cL_doubtToes 7 = .ok (.i2l, 1) := by decide +kernel
theorem dL_doubtToes_8 : decode cL_doubtToes 8 = .ok (.lastore, 1) := by decide +kernel
theorem dL_doubtToes_9 : decode cL_doubtToes 9 = .ok (.goto 9, 3) := by decide +kernel
theorem dL_doubtToes_12 : decode cL_doubtToes 12 = .ok (.astore_n 3, 1) := by decide +kernel
theorem dL_doubtToes_13 : decode cL_doubtToes 13 = .ok (.iconst 1, 1) := by decide +kernel
theorem dL_doubtToes_14 : decode cL_doubtToes 14 = .ok (.ireturn, 1) := by decide +kernel
theorem dL_doubtToes_15 : decode cL_doubtToes 15 = .ok (.astore_n 3, 1) := by decide +kernel
theorem dL_doubtToes_16 : decode cL_doubtToes 16 = .ok (.iconst 2, 1) := by decide +kernel
theorem dL_doubtToes_17 : decode cL_doubtToes 17 = .ok (.ireturn, 1) := by decide +kernel
theorem dL_doubtToes_18 : decode cL_doubtToes 18 = .ok (.iconst 0, 1) := by decide +kernel
theorem dL_doubtToes_19 : decode cL_doubtToes 19 = .ok (.ireturn, 1) := by decide +kernel
set_option maxRecDepth 20000 in
theorem ggL_confirmToes_X9_confirmToes : GoodIn wsL_confirmToes wsX9_confirmToes := goodIn_ca (goodIn_ca (goodIn_r _ [7, 8, 9, 10, 11, 12, 6, 13, 14, 15, 16, 17, 18, 19, 20, 21, 22, 23, 24, 25, 26, 27, 28, 29, 30, 31, 32, 33, 34, 35, 36, 37, 38, 39, 40, 41, 42, 43, 44, 45, 46, 47, 48, 49, 50, 51, 52, 53, 54, 55, 56, 57, 58, 59, 60, 61, 62, 63, 64, 65, 66, 67, 68, 69, 70, 71, 72, 73, 74, 75, 76, 77, 78, 79, 80, 81, 82, 83, 84, 85, 86, 87, 88, 89, 90, 91, 92, 93, 94, 95, 96, 97, 98, 99, 100, 101, 102, 103, 104, 105, 106, 107, 108, 109, 110, 111, 112, 113, 114, 115, 116, 117, 118, 119, 120, 121, 122, 123, 124, 125, 126, 127, 128, 129, 130] (by decide +kernel) (by decide +kernel)) (goodIn_sub (fun _ h => List.mem_cons_of_mem _ (List.mem_append_left _ (List.mem_append_right _ h))) (by decide +kernel))) (goodIn_sub (fun _ h => List.mem_cons_of_mem _ (List.mem_append_right _ h)) (by decide +kernel))
set_option maxRecDepth 20000 in
theorem gL_confirmToes_X9_confirmToes : GoodIn wsL_confirmToes (wsV RL 40 RX9 yX9_confirmToes wsX9_confirmToes) := goodIn_app (goodIn_of _ (by decide +kernel)) ggL_confirmToes_X9_confirmToes
theorem dL_confirmToes_0 : decode cL_confirmToes 0 = .ok (.aload_n 2, 1) := by decide +kernel
theorem dL_confirmToes_1 : decode cL_confirmToes 1 = .ok (.iconst 0, 1) := by decide +kernel
theorem dL_confirmToes_2 : decode cL_confirmToes 2 = .ok (.aload_n 0, 1) := by decide +kernel
theorem dL_confirmToes_3 : decode cL_confirmToes 3 = .ok (.iload_n 1, 1) := by decide +kernel
theorem dL_confirmToes_4 : decode cL_confirmToes 4 = .ok (.invokevirtual 40, 3) := by decide +kernel
theorem dL_confirmToes_7 : decode cL_confirmToes 7 = .ok (.i2l, 1) := by decide +kernel
theorem dL_confirmToes_8 : decode cL_confirmToes 8 = .ok (.lastore, 1) := by decide +kernel
theorem dL_confirmToes_9 : decode cL_confirmToes 9 = .ok (.goto 9, 3) := by decide +kernel
theorem dL_confirmToes_12 : decode cL_confirmToes 12 = .ok (.astore_n 3, 1) := by decide +kernel
theorem dL_confirmToes_13 : decode cL_confirmToes 13 = .ok (.iconst 1, 1) := by decide +kernel
theorem dL_confirmToes_14 : decode cL_confirmToes 14 = .ok (.ireturn, 1) := by decide +kernel
theorem dL_confirmToes_15 : decode cL_confirmToes 15 = .ok (.astore_n 3, 1) := by decide +kernel
theorem dL_confirmToes_16 : decode cL_confirmToes 16 = .ok (.iconst 2, 1) := by decide +kernel
theorem dL_confirmToes_17 : decode cL_confirmToes 17 = .ok (.ireturn, 1) := by decide +kernel
theorem dL_confirmToes_18 : decode cL_confirmToes 18 = .ok (.iconst 0, 1) := by decide +kernel
theorem dL_confirmToes_19 : decode cL_confirmToes 19 = .ok (.ireturn, 1) := by decide +kernel
set_option maxRecDepth 20000 in
theorem ggL_setTide_X9_setTide : GoodIn wsL_setTide wsX9_setTide := goodIn_ca (goodIn_ca (goodIn_r _ [7, 8, 9, 10, 11, 6, 12, 13, 14, 15, 16, 17, 18, 19, 20, 21, 22, 23, 24, 25, 26, 27, 28, 29, 30, 31, 32, 33, 34, 35, 36, 37, 38, 39, 40, 41, 42, 43, 44, 45, 46, 47, 48, 49, 50, 51, 52, 53, 54, 55, 56, 57, 58, 59, 60, 61, 62, 63, 64, 65, 66, 67, 68, 69, 70, 71, 72, 73, 74, 75, 76, 77, 78, 79, 80, 81, 82, 83, 84, 85, 86, 87, 88, 89, 90, 91, 92, 93, 94, 95, 96, 97, 98, 99, 100, 101, 102, 103, 104, 105, 106, 107, 108, 109, 110, 111, 112, 113, 114, 115, 116, 117, 118, 119, 120, 121, 122, 123, 124, 125, 126, 127, 128, 129, 130, 131] (by decide +kernel) (by decide +kernel)) (goodIn_sub (fun _ h => List.mem_cons_of_mem _ (List.mem_append_left _ (List.mem_append_right _ h))) (by decide +kernel))) (goodIn_sub (fun _ h => List.mem_cons_of_mem _ (List.mem_append_right _ h)) (by decide +kernel))
set_option maxRecDepth 20000 in
theorem gL_setTide_X9_setTide : GoodIn wsL_setTide (wsV RL 43 RX9 yX9_setTide wsX9_setTide) := goodIn_app (goodIn_of _ (by decide +kernel)) ggL_setTide_X9_setTide
theorem dL_setTide_0 : decode cL_setTide 0 = .ok (.aload_n 2, 1) := by decide +kernel
theorem dL_setTide_1 : decode cL_setTide 1 = .ok (.iconst 0, 1) := by decide +kernel
theorem dL_setTide_2 : decode cL_setTide 2 = .ok (.aload_n 0, 1) := by decide +kernel
theorem dL_setTide_3 : decode cL_setTide 3 = .ok (.iload_n 1, 1) := by decide +kernel
theorem dL_setTide_4 : decode cL_setTide 4 = .ok (.invokevirtual 43, 3) := by decide +kernel
theorem dL_setTide_7 : decode cL_setTide 7 = .ok (.i2l, 1) := by decide +kernel
theorem dL_setTide_8 : decode cL_setTide 8 = .ok (.lastore, 1) := by decide +kernel
theorem dL_setTide_9 : decode cL_setTide 9 = .ok (.goto 9, 3) := by decide +kernel
theorem dL_setTide_12 : decode cL_setTide 12 = .ok (.astore_n 3, 1) := by decide +kernel
theorem dL_setTide_13 : decode cL_setTide 13 = .ok (.iconst 1, 1) := by decide +kernel
theorem dL_setTide_14 : decode cL_setTide 14 = .ok (.ireturn, 1) := by decide +kernel
theorem dL_setTide_15 : decode cL_setTide 15 = .ok (.astore_n 3, 1) := by decide +kernel
theorem dL_setTide_16 : decode cL_setTide 16 = .ok (.iconst 2, 1) := by decide +kernel
theorem dL_setTide_17 : decode cL_setTide 17 = .ok (.ireturn, 1) := by decide +kernel
theorem dL_setTide_18 : decode cL_setTide 18 = .ok (.iconst 0, 1) := by decide +kernel
theorem dL_setTide_19 : decode cL_setTide 19 = .ok (.ireturn, 1) := by decide +kernel
set_option maxRecDepth 20000 in
theorem ggL_trackOf_X9_trackOf : GoodIn wsL_trackOf wsX9_trackOf := goodIn_ca (goodIn_r _ [6, 7, 8, 9, 10, 5, 11, 12, 13, 14, 15, 16, 17, 18, 19, 20, 21, 22, 23, 24, 25, 26, 27, 28, 29, 30, 31, 32, 33, 34, 35, 36, 37, 38, 39, 40, 41, 42, 43, 44, 45, 46, 47, 48, 49] (by decide +kernel) (by decide +kernel)) (goodIn_sub (fun _ h => List.mem_cons_of_mem _ (List.mem_append_right _ h)) (by decide +kernel))
set_option maxRecDepth 20000 in
theorem gL_trackOf_X9_trackOf : GoodIn wsL_trackOf (wsV RL 46 RX9 yX9_trackOf wsX9_trackOf) := goodIn_app (goodIn_of _ (by decide +kernel)) ggL_trackOf_X9_trackOf
theorem dL_trackOf_0 : decode cL_trackOf 0 = .ok (.aload_n 2, 1) := by decide +kernel
theorem dL_trackOf_1 : decode cL_trackOf 1 = .ok (.iconst 0, 1) := by decide +kernel
theorem dL_trackOf_2 : decode cL_trackOf 2 = .ok (.aload_n 0, 1) := by decide +kernel
theorem dL_trackOf_3 : decode cL_trackOf 3 = .ok (.iload_n 1, 1) := by decide +kernel
theorem dL_trackOf_4 : decode cL_trackOf 4 = .ok (.invokevirtual 46, 3) := by decide +kernel
theorem dL_trackOf_7 : decode cL_trackOf 7 = .ok (.i2l, 1) := by decide +kernel
theorem dL_trackOf_8 : decode cL_trackOf 8 = .ok (.lastore, 1) := by decide +kernel
theorem dL_trackOf_9 : decode cL_trackOf 9 = .ok (.goto 6, 3) := by decide +kernel
theorem dL_trackOf_12 : decode cL_trackOf 12 = .ok (.astore_n 3, 1) := by decide +kernel
theorem dL_trackOf_13 : decode cL_trackOf 13 = .ok (.iconst 1, 1) := by decide +kernel
theorem dL_trackOf_14 : decode cL_trackOf 14 = .ok (.ireturn, 1) := by decide +kernel
theorem dL_trackOf_15 : decode cL_trackOf 15 = .ok (.iconst 0, 1) := by decide +kernel
theorem dL_trackOf_16 : decode cL_trackOf 16 = .ok (.ireturn, 1) := by decide +kernel
set_option maxRecDepth 20000 in
theorem ggL_timeOf_X9_timeOf : GoodIn wsL_timeOf wsX9_timeOf := goodIn_ca (goodIn_r _ [6, 7, 8, 9, 10, 5, 11, 12, 13, 14, 15, 16, 17, 18, 19, 20, 21, 22, 23, 24, 25, 26, 27, 28, 29, 30, 31, 32, 33, 34, 35, 36, 37, 38, 39, 40, 41, 42, 43, 44, 45, 46, 47, 48, 49] (by decide +kernel) (by decide +kernel)) (goodIn_sub (fun _ h => List.mem_cons_of_mem _ (List.mem_append_right _ h)) (by decide +kernel))
set_option maxRecDepth 20000 in
theorem gL_timeOf_X9_timeOf : GoodIn wsL_timeOf (wsV RL 49 RX9 yX9_timeOf wsX9_timeOf) := goodIn_app (goodIn_of _ (by decide +kernel)) ggL_timeOf_X9_timeOf
theorem dL_timeOf_0 : decode cL_timeOf 0 = .ok (.aload_n 2, 1) := by decide +kernel
theorem dL_timeOf_1 : decode cL_timeOf 1 = .ok (.iconst 0, 1) := by decide +kernel
theorem dL_timeOf_2 : decode cL_timeOf 2 = .ok (.aload_n 0, 1) := by decide +kernel
theorem dL_timeOf_3 : decode cL_timeOf 3 = .ok (.iload_n 1, 1) := by decide +kernel
theorem dL_timeOf_4 : decode cL_timeOf 4 = .ok (.invokevirtual 49, 3) := by decide +kernel
theorem dL_timeOf_7 : decode cL_timeOf 7 = .ok (.i2l, 1) := by decide +kernel
theorem dL_timeOf_8 : decode cL_timeOf 8 = .ok (.lastore, 1) := by decide +kernel
theorem dL_timeOf_9 : decode cL_timeOf 9 = .ok (.goto 6, 3) := by decide +kernel
theorem dL_timeOf_12 : decode cL_timeOf 12 = .ok (.astore_n 3, 1) := by decide +kernel
theorem dL_timeOf_13 : decode cL_timeOf 13 = .ok (.iconst 1, 1) := by decide +kernel
theorem dL_timeOf_14 : decode cL_timeOf 14 = .ok (.ireturn, 1) := by decide +kernel
theorem dL_timeOf_15 : decode cL_timeOf 15 = .ok (.iconst 0, 1) := by decide +kernel
theorem dL_timeOf_16 : decode cL_timeOf 16 = .ok (.ireturn, 1) := by decide +kernel
set_option maxRecDepth 20000 in
theorem ggL_rowOf_X9_rowOf : GoodIn wsL_rowOf wsX9_rowOf := goodIn_ca (goodIn_r _ [6, 7, 8, 9, 10, 5, 11, 12, 13, 14, 15, 16, 17, 18, 19, 20, 21, 22, 23, 24, 25, 26, 27, 28, 29, 30, 31, 32, 33, 34, 35, 36, 37, 38, 39, 40, 41, 42, 43, 44, 45, 46, 47, 48, 49] (by decide +kernel) (by decide +kernel)) (goodIn_sub (fun _ h => List.mem_cons_of_mem _ (List.mem_append_right _ h)) (by decide +kernel))
set_option maxRecDepth 20000 in
theorem gL_rowOf_X9_rowOf : GoodIn wsL_rowOf (wsV RL 52 RX9 yX9_rowOf wsX9_rowOf) := goodIn_app (goodIn_of _ (by decide +kernel)) ggL_rowOf_X9_rowOf
theorem dL_rowOf_0 : decode cL_rowOf 0 = .ok (.aload_n 2, 1) := by decide +kernel
theorem dL_rowOf_1 : decode cL_rowOf 1 = .ok (.iconst 0, 1) := by decide +kernel
theorem dL_rowOf_2 : decode cL_rowOf 2 = .ok (.aload_n 0, 1) := by decide +kernel
theorem dL_rowOf_3 : decode cL_rowOf 3 = .ok (.iload_n 1, 1) := by decide +kernel
theorem dL_rowOf_4 : decode cL_rowOf 4 = .ok (.invokevirtual 52, 3) := by decide +kernel
theorem dL_rowOf_7 : decode cL_rowOf 7 = .ok (.i2l, 1) := by decide +kernel
theorem dL_rowOf_8 : decode cL_rowOf 8 = .ok (.lastore, 1) := by decide +kernel
theorem dL_rowOf_9 : decode cL_rowOf 9 = .ok (.goto 6, 3) := by decide +kernel
theorem dL_rowOf_12 : decode cL_rowOf 12 = .ok (.astore_n 3, 1) := by decide +kernel
theorem dL_rowOf_13 : decode cL_rowOf 13 = .ok (.iconst 1, 1) := by decide +kernel
theorem dL_rowOf_14 : decode cL_rowOf 14 = .ok (.ireturn, 1) := by decide +kernel
theorem dL_rowOf_15 : decode cL_rowOf 15 = .ok (.iconst 0, 1) := by decide +kernel
theorem dL_rowOf_16 : decode cL_rowOf 16 = .ok (.ireturn, 1) := by decide +kernel
set_option maxRecDepth 20000 in
theorem ggL_columnOf_X9_columnOf : GoodIn wsL_columnOf wsX9_columnOf := goodIn_ca (goodIn_r _ [6, 7, 8, 9, 10, 5, 11, 12, 13, 14, 15, 16, 17, 18, 19, 20, 21, 22, 23, 24, 25, 26, 27, 28, 29, 30, 31, 32, 33, 34, 35, 36, 37, 38, 39, 40, 41, 42, 43, 44, 45, 46, 47, 48, 49] (by decide +kernel) (by decide +kernel)) (goodIn_sub (fun _ h => List.mem_cons_of_mem _ (List.mem_append_right _ h)) (by decide +kernel))
set_option maxRecDepth 20000 in
theorem gL_columnOf_X9_columnOf : GoodIn wsL_columnOf (wsV RL 55 RX9 yX9_columnOf wsX9_columnOf) := goodIn_app (goodIn_of _ (by decide +kernel)) ggL_columnOf_X9_columnOf
theorem dL_columnOf_0 : decode cL_columnOf 0 = .ok (.aload_n 2, 1) := by decide +kernel
theorem dL_columnOf_1 : decode cL_columnOf 1 = .ok (.iconst 0, 1) := by decide +kernel
theorem dL_columnOf_2 : decode cL_columnOf 2 = .ok (.aload_n 0, 1) := by decide +kernel
theorem dL_columnOf_3 : decode cL_columnOf 3 = .ok (.iload_n 1, 1) := by decide +kernel
theorem dL_columnOf_4 : decode cL_columnOf 4 = .ok (.invokevirtual 55, 3) := by decide +kernel
theorem dL_columnOf_7 : decode cL_columnOf 7 = .ok (.i2l, 1) := by decide +kernel
theorem dL_columnOf_8 : decode cL_columnOf 8 = .ok (.lastore, 1) := by decide +kernel
theorem dL_columnOf_9 : decode cL_columnOf 9 = .ok (.goto 6, 3) := by decide +kernel
theorem dL_columnOf_12 : decode cL_columnOf 12 = .ok (.astore_n 3, 1) := by decide +kernel
theorem dL_columnOf_13 : decode cL_columnOf 13 = .ok (.iconst 1, 1) := by decide +kernel
theorem dL_columnOf_14 : decode cL_columnOf 14 = .ok (.ireturn, 1) := by decide +kernel
theorem dL_columnOf_15 : decode cL_columnOf 15 = .ok (.iconst 0, 1) := by decide +kernel
theorem dL_columnOf_16 : decode cL_columnOf 16 = .ok (.ireturn, 1) := by decide +kernel
set_option maxRecDepth 20000 in
theorem ggL_isLeft_X9_isLeft : GoodIn wsL_isLeft wsX9_isLeft := goodIn_ca (goodIn_r _ [6, 7, 8, 9, 10, 5, 11, 12, 13, 14, 15, 16, 17, 18, 19, 20, 21, 22, 23, 24, 25, 26, 27, 28, 29, 30, 31, 32, 33, 34, 35, 36, 37, 38, 39, 40, 41, 42, 43, 44, 45, 46, 47, 48, 49] (by decide +kernel) (by decide +kernel)) (goodIn_sub (fun _ h => List.mem_cons_of_mem _ (List.mem_append_right _ h)) (by decide +kernel))
set_option maxRecDepth 20000 in
theorem gL_isLeft_X9_isLeft : GoodIn wsL_isLeft (wsV RL 58 RX9 yX9_isLeft wsX9_isLeft) := goodIn_app (goodIn_of _ (by decide +kernel)) ggL_isLeft_X9_isLeft
theorem dL_isLeft_0 : decode cL_isLeft 0 = .ok (.aload_n 2, 1) := by decide +kernel
theorem dL_isLeft_1 : decode cL_isLeft 1 = .ok (.iconst 0, 1) := by decide +kernel
theorem dL_isLeft_2 : decode cL_isLeft 2 = .ok (.aload_n 0, 1) := by decide +kernel
theorem dL_isLeft_3 : decode cL_isLeft 3 = .ok (.iload_n 1, 1) := by decide +kernel
theorem dL_isLeft_4 : decode cL_isLeft 4 = .ok (.invokevirtual 58, 3) := by decide +kernel
theorem dL_isLeft_7 : decode cL_isLeft 7 = .ok (.ifCond .eq 7, 3) := by decide +kernel
theorem dL_isLeft_10 : decode cL_isLeft 10 = .ok (.lconst 1, 1) := by decide +kernel
theorem dL_isLeft_11 : decode cL_isLeft 11 = .ok (.goto 4, 3) := by decide +kernel
theorem dL_isLeft_14 : decode cL_isLeft 14 = .ok (.lconst 0, 1) := by decide +kernel
theorem dL_isLeft_15 : decode cL_isLeft 15 = .ok (.lastore, 1) := by decide +kernel
theorem dL_isLeft_16 : decode cL_isLeft 16 = .ok (.goto 6, 3) := by decide +kernel
theorem dL_isLeft_19 : decode cL_isLeft 19 = .ok (.astore_n 3, 1) := by decide +kernel
theorem dL_isLeft_20 : decode cL_isLeft 20 = .ok (.iconst 1, 1) := by decide +kernel
theorem dL_isLeft_21 : decode cL_isLeft 21 = .ok (.ireturn, 1) := by decide +kernel
theorem dL_isLeft_22 : decode cL_isLeft 22 = .ok (.iconst 0, 1) := by decide +kernel
theorem dL_isLeft_23 : decode cL_isLeft 23 = .ok (.ireturn, 1) := by decide +kernel
set_option maxRecDepth 20000 in
theorem ggL_depthOf_X9_depthOf : GoodIn wsL_depthOf wsX9_depthOf := goodIn_ca (goodIn_r _ [6, 7, 8, 9, 10, 5, 11, 12, 13, 14, 15, 16, 17, 18, 19, 20, 21, 22, 23, 24, 25, 26, 27, 28, 29, 30, 31, 32, 33, 34, 35, 36, 37, 38, 39, 40, 41, 42, 43, 44, 45, 46, 47, 48, 49] (by decide +kernel) (by decide +kernel)) (goodIn_sub (fun _ h => List.mem_cons_of_mem _ (List.mem_append_right _ h)) (by decide +kernel))
set_option maxRecDepth 20000 in
theorem gL_depthOf_X9_depthOf : GoodIn wsL_depthOf (wsV RL 61 RX9 yX9_depthOf wsX9_depthOf) := goodIn_app (goodIn_of _ (by decide +kernel)) ggL_depthOf_X9_depthOf
theorem dL_depthOf_0 : decode cL_depthOf 0 = .ok (.aload_n 2, 1) := by decide +kernel
theorem dL_depthOf_1 : decode cL_depthOf 1 = .ok (.iconst 0, 1) := by decide +kernel
theorem dL_depthOf_2 : decode cL_depthOf 2 = .ok (.aload_n 0, 1) := by decide +kernel
theorem dL_depthOf_3 : decode cL_depthOf 3 = .ok (.iload_n 1, 1) := by decide +kernel
theorem dL_depthOf_4 : decode cL_depthOf 4 = .ok (.invokevirtual 61, 3) := by decide +kernel
theorem dL_depthOf_7 : decode cL_depthOf 7 = .ok (.i2l, 1) := by decide +kernel
theorem dL_depthOf_8 : decode cL_depthOf 8 = .ok (.lastore, 1) := by decide +kernel
theorem dL_depthOf_9 : decode cL_depthOf 9 = .ok (.goto 6, 3) := by decide +kernel
theorem dL_depthOf_12 : decode cL_depthOf 12 = .ok (.astore_n 3, 1) := by decide +kernel
theorem dL_depthOf_13 : decode cL_depthOf 13 = .ok (.iconst 1, 1) := by decide +kernel
theorem dL_depthOf_14 : decode cL_depthOf 14 = .ok (.ireturn, 1) := by decide +kernel
theorem dL_depthOf_15 : decode cL_depthOf 15 = .ok (.iconst 0, 1) := by decide +kernel
theorem dL_depthOf_16 : decode cL_depthOf 16 = .ok (.ireturn, 1) := by decide +kernel
set_option maxRecDepth 20000 in
theorem ggL_doubtsOf_X9_doubtsOf : GoodIn wsL_doubtsOf wsX9_doubtsOf := goodIn_ca (goodIn_r _ [6, 7, 8, 9, 10, 5, 11, 12, 13, 14, 15, 16, 17, 18, 19, 20, 21, 22, 23, 24, 25, 26, 27, 28, 29, 30, 31, 32, 33, 34, 35, 36, 37, 38, 39, 40, 41, 42, 43, 44, 45, 46, 47, 48, 49] (by decide +kernel) (by decide +kernel)) (goodIn_sub (fun _ h => List.mem_cons_of_mem _ (List.mem_append_right _ h)) (by decide +kernel))
set_option maxRecDepth 20000 in
theorem gL_doubtsOf_X9_doubtsOf : GoodIn wsL_doubtsOf (wsV RL 64 RX9 yX9_doubtsOf wsX9_doubtsOf) := goodIn_app (goodIn_of _ (by decide +kernel)) ggL_doubtsOf_X9_doubtsOf
theorem dL_doubtsOf_0 : decode cL_doubtsOf 0 = .ok (.aload_n 2, 1) := by decide +kernel
theorem dL_doubtsOf_1 : decode cL_doubtsOf 1 = .ok (.iconst 0, 1) := by decide +kernel
theorem dL_doubtsOf_2 : decode cL_doubtsOf 2 = .ok (.aload_n 0, 1) := by decide +kernel
theorem dL_doubtsOf_3 : decode cL_doubtsOf 3 = .ok (.iload_n 1, 1) := by decide +kernel
theorem dL_doubtsOf_4 : decode cL_doubtsOf 4 = .ok (.invokevirtual 64, 3) := by decide +kernel
theorem dL_doubtsOf_7 : decode cL_doubtsOf 7 = .ok (.i2l, 1) := by decide +kernel
theorem dL_doubtsOf_8 : decode cL_doubtsOf 8 = .ok (.lastore, 1) := by decide +kernel
theorem dL_doubtsOf_9 : decode cL_doubtsOf 9 = .ok (.goto 6, 3) := by decide +kernel
theorem dL_doubtsOf_12 : decode cL_doubtsOf 12 = .ok (.astore_n 3, 1) := by decide +kernel
theorem dL_doubtsOf_13 : decode cL_doubtsOf 13 = .ok (.iconst 1, 1) := by decide +kernel
theorem dL_doubtsOf_14 : decode cL_doubtsOf 14 = .ok (.ireturn, 1) := by decide +kernel
theorem dL_doubtsOf_15 : decode cL_doubtsOf 15 = .ok (.iconst 0, 1) := by decide +kernel
theorem dL_doubtsOf_16 : decode cL_doubtsOf 16 = .ok (.ireturn, 1) := by decide +kernel
set_option maxRecDepth 20000 in
theorem ggL_confidence_X9_confidence : GoodIn wsL_confidence wsX9_confidence := goodIn_ca (goodIn_r _ [6, 7, 8, 9, 10, 5, 11, 12, 13, 14, 15, 16, 17, 18, 19, 20, 21, 22, 23, 24, 25, 26, 27, 28, 29, 30, 31, 32, 33, 34, 35, 36, 37, 38, 39, 40, 41, 42, 43, 44, 45, 46, 47, 48, 49] (by decide +kernel) (by decide +kernel)) (goodIn_sub (fun _ h => List.mem_cons_of_mem _ (List.mem_append_right _ h)) (by decide +kernel))
set_option maxRecDepth 20000 in
theorem gL_confidence_X9_confidence : GoodIn wsL_confidence (wsV RL 67 RX9 yX9_confidence wsX9_confidence) := goodIn_app (goodIn_of _ (by decide +kernel)) ggL_confidence_X9_confidence
theorem dL_confidence_0 : decode cL_confidence 0 = .ok (.aload_n 2, 1) := by decide +kernel
theorem dL_confidence_1 : decode cL_confidence 1 = .ok (.iconst 0, 1) := by decide +kernel
theorem dL_confidence_2 : decode cL_confidence 2 = .ok (.aload_n 0, 1) := by decide +kernel
theorem dL_confidence_3 : decode cL_confidence 3 = .ok (.iload_n 1, 1) := by decide +kernel
theorem dL_confidence_4 : decode cL_confidence 4 = .ok (.invokevirtual 67, 3) := by decide +kernel
theorem dL_confidence_7 : decode cL_confidence 7 = .ok (.dastore, 1) := by decide +kernel
theorem dL_confidence_8 : decode cL_confidence 8 = .ok (.goto 6, 3) := by decide +kernel
theorem dL_confidence_11 : decode cL_confidence 11 = .ok (.astore_n 3, 1) := by decide +kernel
theorem dL_confidence_12 : decode cL_confidence 12 = .ok (.iconst 1, 1) := by decide +kernel
theorem dL_confidence_13 : decode cL_confidence 13 = .ok (.ireturn, 1) := by decide +kernel
theorem dL_confidence_14 : decode cL_confidence 14 = .ok (.iconst 0, 1) := by decide +kernel
theorem dL_confidence_15 : decode cL_confidence 15 = .ok (.ireturn, 1) := by decide +kernel
set_option maxRecDepth 20000 in
theorem ggL_isLate_X9_isLate : GoodIn wsL_isLate wsX9_isLate := goodIn_ca (goodIn_r _ [6, 7, 8, 9, 10, 5, 11, 12, 13, 14, 15, 16, 17, 18, 19, 20, 21, 22, 23, 24, 25, 26, 27, 28, 29, 30, 31, 32, 33, 34, 35, 36, 37, 38, 39, 40, 41, 42, 43, 44, 45, 46, 47, 48, 49] (by decide +kernel) (by decide +kernel)) (goodIn_sub (fun _ h => List.mem_cons_of_mem _ (List.mem_append_right _ h)) (by decide +kernel))
set_option maxRecDepth 20000 in
theorem gL_isLate_X9_isLate : GoodIn wsL_isLate (wsV RL 71 RX9 yX9_isLate wsX9_isLate) := goodIn_app (goodIn_of _ (by decide +kernel)) ggL_isLate_X9_isLate
theorem dL_isLate_0 : decode cL_isLate 0 = .ok (.aload_n 2, 1) := by decide +kernel
theorem dL_isLate_1 : decode cL_isLate 1 = .ok (.iconst 0, 1) := by decide +kernel
theorem dL_isLate_2 : decode cL_isLate 2 = .ok (.aload_n 0, 1) := by decide +kernel
theorem dL_isLate_3 : decode cL_isLate 3 = .ok (.iload_n 1, 1) := by decide +kernel
theorem dL_isLate_4 : decode cL_isLate 4 = .ok (.invokevirtual 71, 3) := by decide +kernel
theorem dL_isLate_7 : decode cL_isLate 7 = .ok (.ifCond .eq 7, 3) := by decide +kernel
theorem dL_isLate_10 : decode cL_isLate 10 = .ok (.lconst 1, 1) := by decide +kernel
theorem dL_isLate_11 : decode cL_isLate 11 = .ok (.goto 4, 3) := by decide +kernel
theorem dL_isLate_14 : decode cL_isLate 14 = .ok (.lconst 0, 1) := by decide +kernel
theorem dL_isLate_15 : decode cL_isLate 15 = .ok (.lastore, 1) := by decide +kernel
theorem dL_isLate_16 : decode cL_isLate 16 = .ok (.goto 6, 3) := by decide +kernel
theorem dL_isLate_19 : decode cL_isLate 19 = .ok (.astore_n 3, 1) := by decide +kernel
theorem dL_isLate_20 : decode cL_isLate 20 = .ok (.iconst 1, 1) := by decide +kernel
theorem dL_isLate_21 : decode cL_isLate 21 = .ok (.ireturn, 1) := by decide +kernel
theorem dL_isLate_22 : decode cL_isLate 22 = .ok (.iconst 0, 1) := by decide +kernel
theorem dL_isLate_23 : decode cL_isLate 23 = .ok (.ireturn, 1) := by decide +kernel
set_option maxRecDepth 20000 in
theorem ggL_previousPrint_X9_previousPrint : GoodIn wsL_previousPrint wsX9_previousPrint := goodIn_ca (goodIn_ca (goodIn_r _ [7, 8, 9, 10, 11, 12, 6, 13, 14, 15, 16, 17, 18, 19, 20, 21, 22, 23, 24, 25, 26, 27, 28, 29, 30, 31, 32, 33, 34, 35, 36, 37, 38, 39, 40, 41, 42, 43, 44, 45, 46, 47, 48, 49, 50, 51, 52, 53, 54, 55, 56, 57, 58, 59, 60, 61, 62, 63, 64, 65, 66, 67, 68] (by decide +kernel) (by decide +kernel)) (goodIn_sub (fun _ h => List.mem_cons_of_mem _ (List.mem_append_left _ (List.mem_append_right _ h))) (by decide +kernel))) (goodIn_sub (fun _ h => List.mem_cons_of_mem _ (List.mem_append_right _ h)) (by decide +kernel))
set_option maxRecDepth 20000 in
theorem gL_previousPrint_X9_previousPrint : GoodIn wsL_previousPrint (wsV RL 74 RX9 yX9_previousPrint wsX9_previousPrint) := goodIn_app (goodIn_of _ (by decide +kernel)) ggL_previousPrint_X9_previousPrint
theorem dL_previousPrint_0 : decode cL_previousPrint 0 = .ok (.aload_n 2, 1) := by decide +kernel
theorem dL_previousPrint_1 : decode cL_previousPrint 1 = .ok (.iconst 0, 1) := by decide +kernel
theorem dL_previousPrint_2 : decode cL_previousPrint 2 = .ok (.aload_n 0, 1) := by decide +kernel
theorem dL_previousPrint_3 : decode cL_previousPrint 3 = .ok (.iload_n 1, 1) := by decide +kernel
theorem dL_previousPrint_4 : decode cL_previousPrint 4 = .ok (.invokevirtual 74, 3) := by decide +kernel
theorem dL_previousPrint_7 : decode cL_previousPrint 7 = .ok (.i2l, 1) := by decide +kernel
theorem dL_previousPrint_8 : decode cL_previousPrint 8 = .ok (.lastore, 1) := by decide +kernel
theorem dL_previousPrint_9 : decode cL_previousPrint 9 = .ok (.goto 9, 3) := by decide +kernel
theorem dL_previousPrint_12 : decode cL_previousPrint 12 = .ok (.astore_n 3, 1) := by decide +kernel
theorem dL_previousPrint_13 : decode cL_previousPrint 13 = .ok (.iconst 1, 1) := by decide +kernel
theorem dL_previousPrint_14 : decode cL_previousPrint 14 = .ok (.ireturn, 1) := by decide +kernel
theorem dL_previousPrint_15 : decode cL_previousPrint 15 = .ok (.astore_n 3, 1) := by decide +kernel
theorem dL_previousPrint_16 : decode cL_previousPrint 16 = .ok (.iconst 2, 1) := by decide +kernel
theorem dL_previousPrint_17 : decode cL_previousPrint 17 = .ok (.ireturn, 1) := by decide +kernel
theorem dL_previousPrint_18 : decode cL_previousPrint 18 = .ok (.iconst 0, 1) := by decide +kernel
theorem dL_previousPrint_19 : decode cL_previousPrint 19 = .ok (.ireturn, 1) := by decide +kernel
set_option maxRecDepth 20000 in
theorem ggL_nextPrint_X9_nextPrint : GoodIn wsL_nextPrint wsX9_nextPrint := goodIn_ca (goodIn_ca (goodIn_r _ [7, 8, 9, 10, 11, 12, 6, 13, 14, 15, 16, 17, 18, 19, 20, 21, 22, 23, 24, 25, 26, 27, 28, 29, 30, 31, 32, 33, 34, 35, 36, 37, 38, 39, 40, 41, 42, 43, 44, 45, 46, 47, 48, 49, 50, 51, 52, 53, 54, 55, 56, 57, 58, 59, 60, 61, 62, 63, 64, 65, 66, 67, 68] (by decide +kernel) (by decide +kernel)) (goodIn_sub (fun _ h => List.mem_cons_of_mem _ (List.mem_append_left _ (List.mem_append_right _ h))) (by decide +kernel))) (goodIn_sub (fun _ h => List.mem_cons_of_mem _ (List.mem_append_right _ h)) (by decide +kernel))
set_option maxRecDepth 20000 in
theorem gL_nextPrint_X9_nextPrint : GoodIn wsL_nextPrint (wsV RL 79 RX9 yX9_nextPrint wsX9_nextPrint) := goodIn_app (goodIn_of _ (by decide +kernel)) ggL_nextPrint_X9_nextPrint
theorem dL_nextPrint_0 : decode cL_nextPrint 0 = .ok (.aload_n 2, 1) := by decide +kernel
theorem dL_nextPrint_1 : decode cL_nextPrint 1 = .ok (.iconst 0, 1) := by decide +kernel
theorem dL_nextPrint_2 : decode cL_nextPrint 2 = .ok (.aload_n 0, 1) := by decide +kernel
theorem dL_nextPrint_3 : decode cL_nextPrint 3 = .ok (.iload_n 1, 1) := by decide +kernel
theorem dL_nextPrint_4 : decode cL_nextPrint 4 = .ok (.invokevirtual 79, 3) := by decide +kernel
theorem dL_nextPrint_7 : decode cL_nextPrint 7 = .ok (.i2l, 1) := by decide +kernel
theorem dL_nextPrint_8 : decode cL_nextPrint 8 = .ok (.lastore, 1) := by decide +kernel
theorem dL_nextPrint_9 : decode cL_nextPrint 9 = .ok (.goto 9, 3) := by decide +kernel
theorem dL_nextPrint_12 : decode cL_nextPrint 12 = .ok (.astore_n 3, 1) := by decide +kernel
theorem dL_nextPrint_13 : decode cL_nextPrint 13 = .ok (.iconst 1, 1) := by decide +kernel
theorem dL_nextPrint_14 : decode cL_nextPrint 14 = .ok (.ireturn, 1) := by decide +kernel
theorem dL_nextPrint_15 : decode cL_nextPrint 15 = .ok (.astore_n 3, 1) := by decide +kernel
theorem dL_nextPrint_16 : decode cL_nextPrint 16 = .ok (.iconst 2, 1) := by decide +kernel
theorem dL_nextPrint_17 : decode cL_nextPrint 17 = .ok (.ireturn, 1) := by decide +kernel
theorem dL_nextPrint_18 : decode cL_nextPrint 18 = .ok (.iconst 0, 1) := by decide +kernel
theorem dL_nextPrint_19 : decode cL_nextPrint 19 = .ok (.ireturn, 1) := by decide +kernel
set_option maxRecDepth 20000 in
theorem ggL_strideOf_X9_strideOf : GoodIn wsL_strideOf wsX9_strideOf := goodIn_ca (goodIn_ca (goodIn_r _ [7, 8, 9, 10, 11, 12, 13, 6, 14, 15, 16, 17, 18, 19, 20, 21, 22, 23, 24, 25, 26, 27, 28, 29, 30, 31, 32, 33, 34, 35, 36, 37, 38, 39, 40, 41, 42, 43, 44, 45, 46, 47, 48, 49, 50, 51, 52, 53, 54, 55, 56, 57, 58, 59, 60, 61, 62, 63, 64, 65, 66, 67, 68, 69, 70, 71, 72, 73, 74, 75, 76, 77, 78, 79] (by decide +kernel) (by decide +kernel)) (goodIn_sub (fun _ h => List.mem_cons_of_mem _ (List.mem_append_left _ (List.mem_append_right _ h))) (by decide +kernel))) (goodIn_sub (fun _ h => List.mem_cons_of_mem _ (List.mem_append_right _ h)) (by decide +kernel))
set_option maxRecDepth 20000 in
theorem gL_strideOf_X9_strideOf : GoodIn wsL_strideOf (wsV RL 82 RX9 yX9_strideOf wsX9_strideOf) := goodIn_app (goodIn_of _ (by decide +kernel)) ggL_strideOf_X9_strideOf
theorem dL_strideOf_0 : decode cL_strideOf 0 = .ok (.aload_n 2, 1) := by decide +kernel
theorem dL_strideOf_1 : decode cL_strideOf 1 = .ok (.iconst 0, 1) := by decide +kernel
theorem dL_strideOf_2 : decode cL_strideOf 2 = .ok (.aload_n 0, 1) := by decide +kernel
theorem dL_strideOf_3 : decode cL_strideOf 3 = .ok (.iload_n 1, 1) := by decide +kernel
theorem dL_strideOf_4 : decode cL_strideOf 4 = .ok (.invokevirtual 82, 3) := by decide +kernel
theorem dL_strideOf_7 : decode cL_strideOf 7 = .ok (.i2l, 1) := by decide +kernel
theorem dL_strideOf_8 : decode cL_strideOf 8 = .ok (.lastore, 1) := by decide +kernel
theorem dL_strideOf_9 : decode cL_strideOf 9 = .ok (.goto 9, 3) := by decide +kernel
theorem dL_strideOf_12 : decode cL_strideOf 12 = .ok (.astore_n 3, 1) := by decide +kernel
theorem dL_strideOf_13 : decode cL_strideOf 13 = .ok (.iconst 1, 1) := by decide +kernel
theorem dL_strideOf_14 : decode cL_strideOf 14 = .ok (.ireturn, 1) := by decide +kernel
theorem dL_strideOf_15 : decode cL_strideOf 15 = .ok (.astore_n 3, 1) := by decide +kernel
theorem dL_strideOf_16 : decode cL_strideOf 16 = .ok (.iconst 2, 1) := by decide +kernel
theorem dL_strideOf_17 : decode cL_strideOf 17 = .ok (.ireturn, 1) := by decide +kernel
theorem dL_strideOf_18 : decode cL_strideOf 18 = .ok (.iconst 0, 1) := by decide +kernel
theorem dL_strideOf_19 : decode cL_strideOf 19 = .ok (.ireturn, 1) := by decide +kernel
set_option maxRecDepth 20000 in
theorem ggL_hasStrideError_X9_hasStrideError : GoodIn wsL_hasStrideError wsX9_hasStrideError := goodIn_ca (goodIn_r _ [6, 7, 8, 9, 10, 5, 11, 12, 13, 14, 15, 16, 17, 18, 19, 20, 21, 22, 23, 24, 25, 26, 27, 28, 29, 30, 31, 32, 33, 34, 35, 36, 37, 38, 39, 40, 41, 42, 43, 44, 45, 46, 47, 48, 49, 50, 51, 52, 53, 54, 55, 56, 57, 58, 59, 60, 61, 62, 63, 64, 65, 66, 67, 68, 69, 70, 71, 72, 73, 74, 75, 76, 77, 78, 79, 80, 81, 82, 83, 84, 85, 86, 87, 88, 89, 90, 91, 92, 93, 94, 95, 96, 97] (by decide +kernel) (by decide +kernel)) (goodIn_sub (fun _ h => List.mem_cons_of_mem _ (List.mem_append_right _ h)) (by decide +kernel))
set_option maxRecDepth 20000 in
theorem gL_hasStrideError_X9_hasStrideError : GoodIn wsL_hasStrideError (wsV RL 85 RX9 yX9_hasStrideError wsX9_hasStrideError) := goodIn_app (goodIn_of _ (by decide +kernel)) ggL_hasStrideError_X9_hasStrideError
theorem dL_hasStrideError_0 : decode cL_hasStrideError 0 = .ok (.aload_n 2, 1) := by decide +kernel
theorem dL_hasStrideError_1 : decode cL_hasStrideError 1 = .ok (.iconst 0, 1) := by decide +kernel
theorem dL_hasStrideError_2 : decode cL_hasStrideError 2 = .ok (.aload_n 0, 1) := by decide +kernel
theorem dL_hasStrideError_3 : decode cL_hasStrideError 3 = .ok (.iload_n 1, 1) := by decide +kernel
theorem dL_hasStrideError_4 : decode cL_hasStrideError 4 = .ok (.invokevirtual 85, 3) := by decide +kernel
theorem dL_hasStrideError_7 : decode cL_hasStrideError 7 = .ok (.ifCond .eq 7, 3) := by decide +kernel
theorem dL_hasStrideError_10 : decode cL_hasStrideError 10 = .ok (.lconst 1, 1) := by decide +kernel
theorem dL_hasStrideError_11 : decode cL_hasStrideError 11 = .ok (.goto 4, 3) := by decide +kernel
theorem dL_hasStrideError_14 : decode cL_hasStrideError 14 = .ok (.lconst 0, 1) := by decide +kernel
theorem dL_hasStrideError_15 : decode cL_hasStrideError 15 = .ok (.lastore, 1) := by decide +kernel
theorem dL_hasStrideError_16 : decode cL_hasStrideError 16 = .ok (.goto 6, 3) := by decide +kernel
theorem dL_hasStrideError_19 : decode cL_hasStrideError 19 = .ok (.astore_n 3, 1) := by decide +kernel
theorem dL_hasStrideError_20 : decode cL_hasStrideError 20 = .ok (.iconst 1, 1) := by decide +kernel
theorem dL_hasStrideError_21 : decode cL_hasStrideError 21 = .ok (.ireturn, 1) := by decide +kernel
theorem dL_hasStrideError_22 : decode cL_hasStrideError 22 = .ok (.iconst 0, 1) := by decide +kernel
theorem dL_hasStrideError_23 : decode cL_hasStrideError 23 = .ok (.ireturn, 1) := by decide +kernel
set_option maxRecDepth 20000 in
theorem ggL_hasFootError_X9_hasFootError : GoodIn wsL_hasFootError wsX9_hasFootError := goodIn_ca (goodIn_r _ [6, 7, 8, 9, 10, 5, 11, 12, 13, 14, 15, 16, 17, 18, 19, 20, 21, 22, 23, 24, 25, 26, 27, 28, 29, 30, 31, 32, 33, 34, 35, 36, 37, 38, 39, 40, 41, 42, 43, 44, 45, 46, 47, 48, 49, 50, 51, 52, 53, 54, 55, 56, 57, 58, 59, 60, 61, 62, 63, 64, 65, 66, 67, 68, 69, 70, 71, 72, 73, 74] (by decide +kernel) (by decide +kernel)) (goodIn_sub (fun _ h => List.mem_cons_of_mem _ (List.mem_append_right _ h)) (by decide +kernel))
set_option maxRecDepth 20000 in
theorem gL_hasFootError_X9_hasFootError : GoodIn wsL_hasFootError (wsV RL 88 RX9 yX9_hasFootError wsX9_hasFootError) := goodIn_app (goodIn_of _ (by decide +kernel)) ggL_hasFootError_X9_hasFootError
theorem dL_hasFootError_0 : decode cL_hasFootError 0 = .ok (.aload_n 2, 1) := by decide +kernel
theorem dL_hasFootError_1 : decode cL_hasFootError 1 = .ok (.iconst 0, 1) := by decide +kernel
theorem dL_hasFootError_2 : decode cL_hasFootError 2 = .ok (.aload_n 0, 1) := by decide +kernel
theorem dL_hasFootError_3 : decode cL_hasFootError 3 = .ok (.iload_n 1, 1) := by decide +kernel
theorem dL_hasFootError_4 : decode cL_hasFootError 4 = .ok (.invokevirtual 88, 3) := by decide +kernel
theorem dL_hasFootError_7 : decode cL_hasFootError 7 = .ok (.ifCond .eq 7, 3) := by decide +kernel
theorem dL_hasFootError_10 : decode cL_hasFootError 10 = .ok (.lconst 1, 1) := by decide +kernel
theorem dL_hasFootError_11 : decode cL_hasFootError 11 = .ok (.goto 4, 3) := by decide +kernel
theorem dL_hasFootError_14 : decode cL_hasFootError 14 = .ok (.lconst 0, 1) := by decide +kernel
theorem dL_hasFootError_15 : decode cL_hasFootError 15 = .ok (.lastore, 1) := by decide +kernel
theorem dL_hasFootError_16 : decode cL_hasFootError 16 = .ok (.goto 6, 3) := by decide +kernel
theorem dL_hasFootError_19 : decode cL_hasFootError 19 = .ok (.astore_n 3, 1) := by decide +kernel
theorem dL_hasFootError_20 : decode cL_hasFootError 20 = .ok (.iconst 1, 1) := by decide +kernel
theorem dL_hasFootError_21 : decode cL_hasFootError 21 = .ok (.ireturn, 1) := by decide +kernel
theorem dL_hasFootError_22 : decode cL_hasFootError 22 = .ok (.iconst 0, 1) := by decide +kernel
theorem dL_hasFootError_23 : decode cL_hasFootError 23 = .ok (.ireturn, 1) := by decide +kernel
set_option maxRecDepth 20000 in
theorem ggL_hasDepthError_X9_hasDepthError : GoodIn wsL_hasDepthError wsX9_hasDepthError := goodIn_ca (goodIn_r _ [6, 7, 8, 9, 10, 5, 11, 12, 13, 14, 15, 16, 17, 18, 19, 20, 21, 22, 23, 24, 25, 26, 27, 28, 29, 30, 31, 32, 33, 34, 35, 36, 37, 38, 39, 40, 41, 42, 43, 44, 45, 46, 47, 48, 49, 50, 51, 52, 53, 54, 55, 56, 57, 58, 59, 60, 61, 62, 63, 64, 65, 66, 67, 68, 69, 70, 71, 72, 73, 74, 75, 76, 77, 78] (by decide +kernel) (by decide +kernel)) (goodIn_sub (fun _ h => List.mem_cons_of_mem _ (List.mem_append_right _ h)) (by decide +kernel))
set_option maxRecDepth 20000 in
theorem gL_hasDepthError_X9_hasDepthError : GoodIn wsL_hasDepthError (wsV RL 91 RX9 yX9_hasDepthError wsX9_hasDepthError) := goodIn_app (goodIn_of _ (by decide +kernel)) ggL_hasDepthError_X9_hasDepthError
theorem dL_hasDepthError_0 : decode cL_hasDepthError 0 = .ok (.aload_n 2, 1) := by decide +kernel
theorem dL_hasDepthError_1 : decode cL_hasDepthError 1 = .ok (.iconst 0, 1) := by decide +kernel
theorem dL_hasDepthError_2 : decode cL_hasDepthError 2 = .ok (.aload_n 0, 1) := by decide +kernel
theorem dL_hasDepthError_3 : decode cL_hasDepthError 3 = .ok (.iload_n 1, 1) := by decide +kernel
theorem dL_hasDepthError_4 : decode cL_hasDepthError 4 = .ok (.invokevirtual 91, 3) := by decide +kernel
theorem dL_hasDepthError_7 : decode cL_hasDepthError 7 = .ok (.ifCond .eq 7, 3) := by decide +kernel
theorem dL_hasDepthError_10 : decode cL_hasDepthError 10 = .ok (.lconst 1, 1) := by decide +kernel
theorem dL_hasDepthError_11 : decode cL_hasDepthError 11 = .ok (.goto 4, 3) := by decide +kernel
theorem dL_hasDepthError_14 : decode cL_hasDepthError 14 = .ok (.lconst 0, 1) := by decide +kernel
theorem dL_hasDepthError_15 : decode cL_hasDepthError 15 = .ok (.lastore, 1) := by decide +kernel
theorem dL_hasDepthError_16 : decode cL_hasDepthError 16 = .ok (.goto 6, 3) := by decide +kernel
theorem dL_hasDepthError_19 : decode cL_hasDepthError 19 = .ok (.astore_n 3, 1) := by decide +kernel
theorem dL_hasDepthError_20 : decode cL_hasDepthError 20 = .ok (.iconst 1, 1) := by decide +kernel
theorem dL_hasDepthError_21 : decode cL_hasDepthError 21 = .ok (.ireturn, 1) := by decide +kernel
theorem dL_hasDepthError_22 : decode cL_hasDepthError 22 = .ok (.iconst 0, 1) := by decide +kernel
theorem dL_hasDepthError_23 : decode cL_hasDepthError 23 = .ok (.ireturn, 1) := by decide +kernel
set_option maxRecDepth 20000 in
theorem ggL_maxStride_X9_maxStride : GoodIn wsL_maxStride wsX9_maxStride := goodIn_ca (goodIn_r _ [6, 7, 8, 9, 10, 5, 11, 12, 13, 14, 15, 16, 17, 18, 19, 20, 21, 22, 23, 24, 25, 26, 27, 28, 29, 30, 31, 32, 33, 34, 35, 36, 37, 38, 39, 40, 41, 42] (by decide +kernel) (by decide +kernel)) (goodIn_sub (fun _ h => List.mem_cons_of_mem _ (List.mem_append_right _ h)) (by decide +kernel))
set_option maxRecDepth 20000 in
theorem gL_maxStride_X9_maxStride : GoodIn wsL_maxStride (wsV RL 94 RX9 yX9_maxStride wsX9_maxStride) := goodIn_app (goodIn_of _ (by decide +kernel)) ggL_maxStride_X9_maxStride
theorem dL_maxStride_0 : decode cL_maxStride 0 = .ok (.aload_n 2, 1) := by decide +kernel
theorem dL_maxStride_1 : decode cL_maxStride 1 = .ok (.iconst 0, 1) := by decide +kernel
theorem dL_maxStride_2 : decode cL_maxStride 2 = .ok (.aload_n 0, 1) := by decide +kernel
theorem dL_maxStride_3 : decode cL_maxStride 3 = .ok (.iload_n 1, 1) := by decide +kernel
theorem dL_maxStride_4 : decode cL_maxStride 4 = .ok (.invokevirtual 94, 3) := by decide +kernel
theorem dL_maxStride_7 : decode cL_maxStride 7 = .ok (.i2l, 1) := by decide +kernel
theorem dL_maxStride_8 : decode cL_maxStride 8 = .ok (.lastore, 1) := by decide +kernel
theorem dL_maxStride_9 : decode cL_maxStride 9 = .ok (.goto 6, 3) := by decide +kernel
theorem dL_maxStride_12 : decode cL_maxStride 12 = .ok (.astore_n 3, 1) := by decide +kernel
theorem dL_maxStride_13 : decode cL_maxStride 13 = .ok (.iconst 1, 1) := by decide +kernel
theorem dL_maxStride_14 : decode cL_maxStride 14 = .ok (.ireturn, 1) := by decide +kernel
theorem dL_maxStride_15 : decode cL_maxStride 15 = .ok (.iconst 0, 1) := by decide +kernel
theorem dL_maxStride_16 : decode cL_maxStride 16 = .ok (.ireturn, 1) := by decide +kernel
set_option maxRecDepth 20000 in
theorem ggL_printCount_X9_printCount : GoodIn wsL_printCount wsX9_printCount := goodIn_ca (goodIn_r _ [6, 7, 8, 9, 10, 5, 11, 12, 13, 14, 15, 16, 17, 18, 19, 20, 21, 22, 23, 24, 25, 26, 27, 28, 29, 30, 31, 32, 33, 34, 35, 36, 37, 38, 39, 40, 41, 42, 43, 44, 45, 46, 47, 48, 49, 50, 51, 52, 53, 54, 55, 56, 57, 58, 59, 60, 61, 62, 63, 64, 65, 66, 67, 68] (by decide +kernel) (by decide +kernel)) (goodIn_sub (fun _ h => List.mem_cons_of_mem _ (List.mem_append_right _ h)) (by decide +kernel))
set_option maxRecDepth 20000 in
theorem gL_printCount_X9_printCount : GoodIn wsL_printCount (wsV RL 97 RX9 yX9_printCount wsX9_printCount) := goodIn_app (goodIn_of _ (by decide +kernel)) ggL_printCount_X9_printCount
theorem dL_printCount_0 : decode cL_printCount 0 = .ok (.aload_n 2, 1) := by decide +kernel
theorem dL_printCount_1 : decode cL_printCount 1 = .ok (.iconst 0, 1) := by decide +kernel
theorem dL_printCount_2 : decode cL_printCount 2 = .ok (.aload_n 0, 1) := by decide +kernel
theorem dL_printCount_3 : decode cL_printCount 3 = .ok (.iload_n 1, 1) := by decide +kernel
theorem dL_printCount_4 : decode cL_printCount 4 = .ok (.invokevirtual 97, 3) := by decide +kernel
theorem dL_printCount_7 : decode cL_printCount 7 = .ok (.i2l, 1) := by decide +kernel
theorem dL_printCount_8 : decode cL_printCount 8 = .ok (.lastore, 1) := by decide +kernel
theorem dL_printCount_9 : decode cL_printCount 9 = .ok (.goto 6, 3) := by decide +kernel
theorem dL_printCount_12 : decode cL_printCount 12 = .ok (.astore_n 3, 1) := by decide +kernel
theorem dL_printCount_13 : decode cL_printCount 13 = .ok (.iconst 1, 1) := by decide +kernel
theorem dL_printCount_14 : decode cL_printCount 14 = .ok (.ireturn, 1) := by decide +kernel
theorem dL_printCount_15 : decode cL_printCount 15 = .ok (.iconst 0, 1) := by decide +kernel
theorem dL_printCount_16 : decode cL_printCount 16 = .ok (.ireturn, 1) := by decide +kernel
set_option maxRecDepth 20000 in
theorem ggL_printAt_X9_printAt : GoodIn wsL_printAt wsX9_printAt := goodIn_ca (goodIn_ca (goodIn_r _ [7, 8, 9, 10, 11, 12, 6, 13, 14, 15, 16, 17, 18, 19, 20, 21, 22, 23, 24, 25, 26, 27, 28, 29, 30, 31, 32, 33, 34, 35, 36, 37, 38, 39, 40, 41, 42, 43, 44, 45, 46, 47, 48, 49, 50, 51, 52, 53, 54, 55, 56, 57, 58, 59, 60, 61, 62, 63, 64, 65, 66, 67, 68, 69, 70, 71, 72, 73, 74, 75] (by decide +kernel) (by decide +kernel)) (goodIn_sub (fun _ h => List.mem_cons_of_mem _ (List.mem_append_left _ (List.mem_append_right _ h))) (by decide +kernel))) (goodIn_sub (fun _ h => List.mem_cons_of_mem _ (List.mem_append_right _ h)) (by decide +kernel))
set_option maxRecDepth 20000 in
theorem gL_printAt_X9_printAt : GoodIn wsL_printAt (wsV RL 100 RX9 yX9_printAt wsX9_printAt) := goodIn_app (goodIn_of _ (by decide +kernel)) ggL_printAt_X9_printAt
theorem dL_printAt_0 : decode cL_printAt 0 = .ok (.aload_n 3, 1) := by decide +kernel
theorem dL_printAt_1 : decode cL_printAt 1 = .ok (.iconst 0, 1) := by decide +kernel
theorem dL_printAt_2 : decode cL_printAt 2 = .ok (.aload_n 0, 1) := by decide +kernel
theorem dL_printAt_3 : decode cL_printAt 3 = .ok (.iload_n 1, 1) := by decide +kernel
theorem dL_printAt_4 : decode cL_printAt 4 = .ok (.iload_n 2, 1) := by decide +kernel
theorem dL_printAt_5 : decode cL_printAt 5 = .ok (.invokevirtual 100, 3) := by decide +kernel
theorem dL_printAt_8 : decode cL_printAt 8 = .ok (.i2l, 1) := by decide +kernel
theorem dL_printAt_9 : decode cL_printAt 9 = .ok (.lastore, 1) := by decide +kernel
theorem dL_printAt_10 : decode cL_printAt 10 = .ok (.goto 11, 3) := by decide +kernel
theorem dL_printAt_13 : decode cL_printAt 13 = .ok (.astore 4, 2) := by decide +kernel
theorem dL_printAt_15 : decode cL_printAt 15 = .ok (.iconst 1, 1) := by decide +kernel
theorem dL_printAt_16 : decode cL_printAt 16 = .ok (.ireturn, 1) := by decide +kernel
theorem dL_printAt_17 : decode cL_printAt 17 = .ok (.astore 4, 2) := by decide +kernel
theorem dL_printAt_19 : decode cL_printAt 19 = .ok (.iconst 2, 1) := by decide +kernel
theorem dL_printAt_20 : decode cL_printAt 20 = .ok (.ireturn, 1) := by decide +kernel
theorem dL_printAt_21 : decode cL_printAt 21 = .ok (.iconst 0, 1) := by decide +kernel
theorem dL_printAt_22 : decode cL_printAt 22 = .ok (.ireturn, 1) := by decide +kernel
set_option maxRecDepth 20000 in
theorem ggL_trackLength_X9_trackLength : GoodIn wsL_trackLength wsX9_trackLength := goodIn_ca (goodIn_r _ [6, 7, 8, 9, 10, 5, 11, 12, 13, 14, 15, 16, 17, 18, 19, 20, 21, 22, 23, 24, 25, 26, 27, 28, 29, 30, 31, 32, 33, 34, 35, 36, 37, 38, 39, 40, 41, 42, 43, 44, 45, 46, 47, 48, 49, 50, 51, 52, 53, 54, 55, 56, 57, 58, 59, 60, 61, 62, 63, 64, 65, 66, 67, 68, 69, 70, 71, 72, 73, 74, 75, 76, 77, 78, 79, 80, 81, 82, 83, 84, 85, 86, 87, 88] (by decide +kernel) (by decide +kernel)) (goodIn_sub (fun _ h => List.mem_cons_of_mem _ (List.mem_append_right _ h)) (by decide +kernel))
set_option maxRecDepth 20000 in
theorem gL_trackLength_X9_trackLength : GoodIn wsL_trackLength (wsV RL 104 RX9 yX9_trackLength wsX9_trackLength) := goodIn_app (goodIn_of _ (by decide +kernel)) ggL_trackLength_X9_trackLength
theorem dL_trackLength_0 : decode cL_trackLength 0 = .ok (.aload_n 2, 1) := by decide +kernel
theorem dL_trackLength_1 : decode cL_trackLength 1 = .ok (.iconst 0, 1) := by decide +kernel
theorem dL_trackLength_2 : decode cL_trackLength 2 = .ok (.aload_n 0, 1) := by decide +kernel
theorem dL_trackLength_3 : decode cL_trackLength 3 = .ok (.iload_n 1, 1) := by decide +kernel
theorem dL_trackLength_4 : decode cL_trackLength 4 = .ok (.invokevirtual 104, 3) := by decide +kernel
theorem dL_trackLength_7 : decode cL_trackLength 7 = .ok (.i2l, 1) := by decide +kernel
theorem dL_trackLength_8 : decode cL_trackLength 8 = .ok (.lastore, 1) := by decide +kernel
theorem dL_trackLength_9 : decode cL_trackLength 9 = .ok (.goto 6, 3) := by decide +kernel
theorem dL_trackLength_12 : decode cL_trackLength 12 = .ok (.astore_n 3, 1) := by decide +kernel
theorem dL_trackLength_13 : decode cL_trackLength 13 = .ok (.iconst 1, 1) := by decide +kernel
theorem dL_trackLength_14 : decode cL_trackLength 14 = .ok (.ireturn, 1) := by decide +kernel
theorem dL_trackLength_15 : decode cL_trackLength 15 = .ok (.iconst 0, 1) := by decide +kernel
theorem dL_trackLength_16 : decode cL_trackLength 16 = .ok (.ireturn, 1) := by decide +kernel
set_option maxRecDepth 20000 in
theorem ggL_trackLengthAgain_X9_trackLengthAgain : GoodIn wsL_trackLengthAgain wsX9_trackLengthAgain := goodIn_ca (goodIn_r _ [6, 7, 8, 9, 10, 5, 11, 12, 13, 14, 15, 16, 17, 18, 19, 20, 21, 22, 23, 24, 25, 26, 27, 28, 29, 30, 31, 32, 33, 34, 35, 36, 37, 38, 39, 40, 41, 42, 43, 44, 45, 46, 47, 48, 49, 50, 51, 52, 53, 54, 55, 56, 57, 58, 59, 60, 61, 62, 63, 64, 65, 66, 67, 68, 69, 70, 71, 72, 73, 74, 75, 76, 77, 78, 79, 80, 81, 82] (by decide +kernel) (by decide +kernel)) (goodIn_sub (fun _ h => List.mem_cons_of_mem _ (List.mem_append_right _ h)) (by decide +kernel))
set_option maxRecDepth 20000 in
theorem gL_trackLengthAgain_X9_trackLengthAgain : GoodIn wsL_trackLengthAgain (wsV RL 107 RX9 yX9_trackLengthAgain wsX9_trackLengthAgain) := goodIn_app (goodIn_of _ (by decide +kernel)) ggL_trackLengthAgain_X9_trackLengthAgain
theorem dL_trackLengthAgain_0 : decode cL_trackLengthAgain 0 = .ok (.aload_n 2, 1) := by decide +kernel
theorem dL_trackLengthAgain_1 : decode cL_trackLengthAgain 1 = .ok (.iconst 0, 1) := by decide +kernel
theorem dL_trackLengthAgain_2 : decode cL_trackLengthAgain 2 = .ok (.aload_n 0, 1) := by decide +kernel
theorem dL_trackLengthAgain_3 : decode cL_trackLengthAgain 3 = .ok (.iload_n 1, 1) := by decide +kernel
theorem dL_trackLengthAgain_4 : decode cL_trackLengthAgain 4 = .ok (.invokevirtual 107, 3) := by decide +kernel
theorem dL_trackLengthAgain_7 : decode cL_trackLengthAgain 7 = .ok (.i2l, 1) := by decide +kernel
theorem dL_trackLengthAgain_8 : decode cL_trackLengthAgain 8 = .ok (.lastore, 1) := by decide +kernel
theorem dL_trackLengthAgain_9 : decode cL_trackLengthAgain 9 = .ok (.goto 6, 3) := by decide +kernel
theorem dL_trackLengthAgain_12 : decode cL_trackLengthAgain 12 = .ok (.astore_n 3, 1) := by decide +kernel
theorem dL_trackLengthAgain_13 : decode cL_trackLengthAgain 13 = .ok (.iconst 1, 1) := by decide +kernel
theorem dL_trackLengthAgain_14 : decode cL_trackLengthAgain 14 = .ok (.ireturn, 1) := by decide +kernel
theorem dL_trackLengthAgain_15 : decode cL_trackLengthAgain 15 = .ok (.iconst 0, 1) := by decide +kernel
theorem dL_trackLengthAgain_16 : decode cL_trackLengthAgain 16 = .ok (.ireturn, 1) := by decide +kernel
set_option maxRecDepth 20000 in
theorem ggL_errorCount_X9_errorCount : GoodIn wsL_errorCount wsX9_errorCount := goodIn_ca (goodIn_r _ [6, 7, 8, 9, 10, 11, 5, 12, 13, 14, 15, 16, 17, 18, 19, 20, 21, 22, 23, 24, 25, 26, 27, 28, 29, 30, 31, 32, 33, 34, 35, 36, 37, 38, 39, 40, 41, 42, 43, 44, 45, 46, 47, 48, 49, 50, 51, 52, 53, 54, 55, 56, 57, 58, 59, 60, 61, 62, 63, 64, 65, 66, 67, 68, 69, 70, 71, 72, 73, 74, 75, 76, 77, 78, 79, 80, 81, 82, 83, 84, 85, 86, 87, 88, 89, 90, 91, 92, 93, 94, 95, 96, 97, 98, 99, 100, 101, 102, 103, 104, 105, 106] (by decide +kernel) (by decide +kernel)) (goodIn_sub (fun _ h => List.mem_cons_of_mem _ (List.mem_append_right _ h)) (by decide +kernel))
set_option maxRecDepth 20000 in
theorem gL_errorCount_X9_errorCount : GoodIn wsL_errorCount (wsV RL 110 RX9 yX9_errorCount wsX9_errorCount) := goodIn_app (goodIn_of _ (by decide +kernel)) ggL_errorCount_X9_errorCount
theorem dL_errorCount_0 : decode cL_errorCount 0 = .ok (.aload_n 2, 1) := by decide +kernel
theorem dL_errorCount_1 : decode cL_errorCount 1 = .ok (.iconst 0, 1) := by decide +kernel
theorem dL_errorCount_2 : decode cL_errorCount 2 = .ok (.aload_n 0, 1) := by decide +kernel
theorem dL_errorCount_3 : decode cL_errorCount 3 = .ok (.iload_n 1, 1) := by decide +kernel
theorem dL_errorCount_4 : decode cL_errorCount 4 = .ok (.invokevirtual 110, 3) := by decide +kernel
theorem dL_errorCount_7 : decode cL_errorCount 7 = .ok (.i2l, 1) := by decide +kernel
theorem dL_errorCount_8 : decode cL_errorCount 8 = .ok (.lastore, 1) := by decide +kernel
theorem dL_errorCount_9 : decode cL_errorCount 9 = .ok (.goto 6, 3) := by decide +kernel
theorem dL_errorCount_12 : decode cL_errorCount 12 = .ok (.astore_n 3, 1) := by decide +kernel
theorem dL_errorCount_13 : decode cL_errorCount 13 = .ok (.iconst 1, 1) := by decide +kernel
theorem dL_errorCount_14 : decode cL_errorCount 14 = .ok (.ireturn, 1) := by decide +kernel
theorem dL_errorCount_15 : decode cL_errorCount 15 = .ok (.iconst 0, 1) := by decide +kernel
theorem dL_errorCount_16 : decode cL_errorCount 16 = .ok (.ireturn, 1) := by decide +kernel
set_option maxRecDepth 20000 in
theorem ggL_errorCountAgain_X9_errorCountAgain : GoodIn wsL_errorCountAgain wsX9_errorCountAgain := goodIn_ca (goodIn_r _ [6, 7, 8, 9, 10, 11, 5, 12, 13, 14, 15, 16, 17, 18, 19, 20, 21, 22, 23, 24, 25, 26, 27, 28, 29, 30, 31, 32, 33, 34, 35, 36, 37, 38, 39, 40, 41, 42, 43, 44, 45, 46, 47, 48, 49, 50, 51, 52, 53, 54, 55, 56, 57, 58, 59, 60, 61, 62, 63, 64, 65, 66, 67, 68, 69, 70, 71, 72, 73, 74, 75, 76, 77, 78, 79, 80, 81, 82, 83, 84, 85, 86, 87, 88, 89, 90, 91, 92, 93, 94, 95, 96, 97, 98, 99, 100, 101, 102, 103, 104, 105, 106] (by decide +kernel) (by decide +kernel)) (goodIn_sub (fun _ h => List.mem_cons_of_mem _ (List.mem_append_right _ h)) (by decide +kernel))
set_option maxRecDepth 20000 in
theorem gL_errorCountAgain_X9_errorCountAgain : GoodIn wsL_errorCountAgain (wsV RL 113 RX9 yX9_errorCountAgain wsX9_errorCountAgain) := goodIn_app (goodIn_of _ (by decide +kernel)) ggL_errorCountAgain_X9_errorCountAgain
theorem dL_errorCountAgain_0 : decode cL_errorCountAgain 0 = .ok (.aload_n 2, 1) := by decide +kernel
theorem dL_errorCountAgain_1 : decode cL_errorCountAgain 1 = .ok (.iconst 0, 1) := by decide +kernel
theorem dL_errorCountAgain_2 : decode cL_errorCountAgain 2 = .ok (.aload_n 0, 1) := by decide +kernel
theorem dL_errorCountAgain_3 : decode cL_errorCountAgain 3 = .ok (.iload_n 1, 1) := by decide +kernel
theorem dL_errorCountAgain_4 : decode cL_errorCountAgain 4 = .ok (.invokevirtual 113, 3) := by decide +kernel
theorem dL_errorCountAgain_7 : decode cL_errorCountAgain 7 = .ok (.i2l, 1) := by decide +kernel
theorem dL_errorCountAgain_8 : decode cL_errorCountAgain 8 = .ok (.lastore, 1) := by decide +kernel
theorem dL_errorCountAgain_9 : decode cL_errorCountAgain 9 = .ok (.goto 6, 3) := by decide +kernel
theorem dL_errorCountAgain_12 : decode cL_errorCountAgain 12 = .ok (.astore_n 3, 1) := by decide +kernel
theorem dL_errorCountAgain_13 : decode cL_errorCountAgain 13 = .ok (.iconst 1, 1) := by decide +kernel
theorem dL_errorCountAgain_14 : decode cL_errorCountAgain 14 = .ok (.ireturn, 1) := by decide +kernel
theorem dL_errorCountAgain_15 : decode cL_errorCountAgain 15 = .ok (.iconst 0, 1) := by decide +kernel
theorem dL_errorCountAgain_16 : decode cL_errorCountAgain 16 = .ok (.ireturn, 1) := by decide +kernel
set_option maxRecDepth 20000 in
theorem ggL_duration_X9_duration : GoodIn wsL_duration wsX9_duration := goodIn_ca (goodIn_ca (goodIn_r _ [7, 8, 9, 10, 11, 12, 6, 13, 14, 15, 16, 17, 18, 19, 20, 21, 22, 23, 24, 25, 26, 27, 28, 29, 30, 31, 32, 33, 34, 35, 36, 37, 38, 39, 40, 41, 42, 43, 44, 45, 46, 47, 48, 49, 50, 51, 52, 53, 54, 55, 56, 57, 58, 59, 60, 61, 62, 63, 64, 65, 66, 67, 68, 69, 70, 71, 72, 73, 74, 75, 76, 77, 78, 79] (by decide +kernel) (by decide +kernel)) (goodIn_sub (fun _ h => List.mem_cons_of_mem _ (List.mem_append_left _ (List.mem_append_right _ h))) (by decide +kernel))) (goodIn_sub (fun _ h => List.mem_cons_of_mem _ (List.mem_append_right _ h)) (by decide +kernel))
set_option maxRecDepth 20000 in
theorem gL_duration_X9_duration : GoodIn wsL_duration (wsV RL 116 RX9 yX9_duration wsX9_duration) := goodIn_app (goodIn_of _ (by decide +kernel)) ggL_duration_X9_duration
theorem dL_duration_0 : decode cL_duration 0 = .ok (.aload_n 2, 1) := by decide +kernel
theorem dL_duration_1 : decode cL_duration 1 = .ok (.iconst 0, 1) := by decide +kernel
theorem dL_duration_2 : decode cL_duration 2 = .ok (.aload_n 0, 1) := by decide +kernel
theorem dL_duration_3 : decode cL_duration 3 = .ok (.iload_n 1, 1) := by decide +kernel
theorem dL_duration_4 : decode cL_duration 4 = .ok (.invokevirtual 116, 3) := by decide +kernel
theorem dL_duration_7 : decode cL_duration 7 = .ok (.i2l, 1) := by decide +kernel
theorem dL_duration_8 : decode cL_duration 8 = .ok (.lastore, 1) := by decide +kernel
theorem dL_duration_9 : decode cL_duration 9 = .ok (.goto 9, 3) := by decide +kernel
theorem dL_duration_12 : decode cL_duration 12 = .ok (.astore_n 3, 1) := by decide +kernel
theorem dL_duration_13 : decode cL_duration 13 = .ok (.iconst 1, 1) := by decide +kernel
theorem dL_duration_14 : decode cL_duration 14 = .ok (.ireturn, 1) := by decide +kernel
theorem dL_duration_15 : decode cL_duration 15 = .ok (.astore_n 3, 1) := by decide +kernel
theorem dL_duration_16 : decode cL_duration 16 = .ok (.iconst 2, 1) := by decide +kernel
theorem dL_duration_17 : decode cL_duration 17 = .ok (.ireturn, 1) := by decide +kernel
theorem dL_duration_18 : decode cL_duration 18 = .ok (.iconst 0, 1) := by decide +kernel
theorem dL_duration_19 : decode cL_duration 19 = .ok (.ireturn, 1) := by decide +kernel
set_option maxRecDepth 20000 in
theorem ggL_averageStride_X9_averageStride : GoodIn wsL_averageStride wsX9_averageStride := goodIn_ca (goodIn_ca (goodIn_r _ [7, 8, 9, 10, 11, 12, 13, 14, 6, 15, 16, 17, 18, 19, 20, 21, 22, 23, 24, 25, 26, 27, 28, 29, 30, 31, 32, 33, 34, 35, 36, 37, 38, 39, 40, 41, 42, 43, 44, 45, 46, 47, 48, 49, 50, 51, 52, 53, 54, 55, 56, 57, 58, 59, 60, 61, 62, 63, 64, 65, 66, 67, 68, 69, 70, 71, 72, 73, 74, 75, 76, 77, 78, 79, 80, 81, 82, 83, 84, 85, 86, 87, 88, 89, 90, 91, 92, 93, 94, 95, 96, 97, 98, 99] (by decide +kernel) (by decide +kernel)) (goodIn_sub (fun _ h => List.mem_cons_of_mem _ (List.mem_append_left _ (List.mem_append_right _ h))) (by decide +kernel))) (goodIn_sub (fun _ h => List.mem_cons_of_mem _ (List.mem_append_right _ h)) (by decide +kernel))
set_option maxRecDepth 20000 in
theorem gL_averageStride_X9_averageStride : GoodIn wsL_averageStride (wsV RL 119 RX9 yX9_averageStride wsX9_averageStride) := goodIn_app (goodIn_of _ (by decide +kernel)) ggL_averageStride_X9_averageStride
theorem dL_averageStride_0 : decode cL_averageStride 0 = .ok (.aload_n 2, 1) := by decide +kernel
theorem dL_averageStride_1 : decode cL_averageStride 1 = .ok (.iconst 0, 1) := by decide +kernel
theorem dL_averageStride_2 : decode cL_averageStride 2 = .ok (.aload_n 0, 1) := by decide +kernel
theorem dL_averageStride_3 : decode cL_averageStride 3 = .ok (.iload_n 1, 1) := by decide +kernel
theorem dL_averageStride_4 : decode cL_averageStride 4 = .ok (.invokevirtual 119, 3) := by decide +kernel
theorem dL_averageStride_7 : decode cL_averageStride 7 = .ok (.dastore, 1) := by decide +kernel
theorem dL_averageStride_8 : decode cL_averageStride 8 = .ok (.goto 9, 3) := by decide +kernel
theorem dL_averageStride_11 : decode cL_averageStride 11 = .ok (.astore_n 3, 1) := by decide +kernel
theorem dL_averageStride_12 : decode cL_averageStride 12 = .ok (.iconst 1, 1) := by decide +kernel
theorem dL_averageStride_13 : decode cL_averageStride 13 = .ok (.ireturn, 1) := by decide +kernel
theorem dL_averageStride_14 : decode cL_averageStride 14 = .ok (.astore_n 3, 1) := by decide +kernel
theorem dL_averageStride_15 : decode cL_averageStride 15 = .ok (.iconst 2, 1) := by decide +kernel
theorem dL_averageStride_16 : decode cL_averageStride 16 = .ok (.ireturn, 1) := by decide +kernel
theorem dL_averageStride_17 : decode cL_averageStride 17 = .ok (.iconst 0, 1) := by decide +kernel
theorem dL_averageStride_18 : decode cL_averageStride 18 = .ok (.ireturn, 1) := by decide +kernel
set_option maxRecDepth 20000 in
theorem ggL_errorsIfMoved_X9_errorsIfMoved : GoodIn wsL_errorsIfMoved wsX9_errorsIfMoved := goodIn_ca (goodIn_r _ [6, 7, 8, 9, 10, 5, 11, 12, 13, 14, 15, 16, 17, 18, 19, 20, 21, 22, 23, 24, 25, 26, 27, 28, 29, 30, 31, 32, 33, 34, 35, 36, 37, 38, 39, 40, 41, 42, 43, 44, 45, 46, 47, 48, 49, 50, 51, 52, 53, 54, 55, 56, 57, 58, 59, 60, 61, 62, 63, 64, 65, 66, 67, 68, 69, 70, 71, 72, 73, 74, 75, 76, 77, 78, 79, 80, 81, 82, 83, 84, 85, 86, 87, 88, 89, 90, 91, 92, 93, 94, 95, 96, 97, 98, 99, 100, 101, 102, 103, 104, 105, 106, 107, 108, 109, 110, 111, 112, 113, 114, 115, 116, 117, 118, 119, 120, 121, 122, 123] (by decide +kernel) (by decide +kernel)) (goodIn_sub (fun _ h => List.mem_cons_of_mem _ (List.mem_append_right _ h)) (by decide +kernel))
set_option maxRecDepth 20000 in
theorem gL_errorsIfMoved_X9_errorsIfMoved : GoodIn wsL_errorsIfMoved (wsV RL 124 RX9 yX9_errorsIfMoved wsX9_errorsIfMoved) := goodIn_app (goodIn_of _ (by decide +kernel)) ggL_errorsIfMoved_X9_errorsIfMoved
theorem dL_errorsIfMoved_0 : decode cL_errorsIfMoved 0 = .ok (.aload 4, 2) := by decide +kernel
theorem dL_errorsIfMoved_2 : decode cL_errorsIfMoved 2 = .ok (.iconst 0, 1) := by decide +kernel
theorem dL_errorsIfMoved_3 : decode cL_errorsIfMoved 3 = .ok (.aload_n 0, 1) := by decide +kernel
theorem dL_errorsIfMoved_4 : decode cL_errorsIfMoved 4 = .ok (.iload_n 1, 1) := by decide +kernel
theorem dL_errorsIfMoved_5 : decode cL_errorsIfMoved 5 = .ok (.iload_n 2, 1) := by decide +kernel
theorem dL_errorsIfMoved_6 : decode cL_errorsIfMoved 6 = .ok (.iload_n 3, 1) := by decide +kernel
theorem dL_errorsIfMoved_7 : decode cL_errorsIfMoved 7 = .ok (.invokevirtual 124, 3) := by decide +kernel
theorem dL_errorsIfMoved_10 : decode cL_errorsIfMoved 10 = .ok (.i2l, 1) := by decide +kernel
theorem dL_errorsIfMoved_11 : decode cL_errorsIfMoved 11 = .ok (.lastore, 1) := by decide +kernel
theorem dL_errorsIfMoved_12 : decode cL_errorsIfMoved 12 = .ok (.goto 7, 3) := by decide +kernel
theorem dL_errorsIfMoved_15 : decode cL_errorsIfMoved 15 = .ok (.astore 5, 2) := by decide +kernel
theorem dL_errorsIfMoved_17 : decode cL_errorsIfMoved 17 = .ok (.iconst 1, 1) := by decide +kernel
theorem dL_errorsIfMoved_18 : decode cL_errorsIfMoved 18 = .ok (.ireturn, 1) := by decide +kernel
theorem dL_errorsIfMoved_19 : decode cL_errorsIfMoved 19 = .ok (.iconst 0, 1) := by decide +kernel
theorem dL_errorsIfMoved_20 : decode cL_errorsIfMoved 20 = .ok (.ireturn, 1) := by decide +kernel
set_option maxRecDepth 20000 in
theorem ggL_canMove_X9_canMove : GoodIn wsL_canMove wsX9_canMove := goodIn_ca (goodIn_r _ [6, 7, 8, 9, 10, 5, 11, 12, 13, 14, 15, 16, 17, 18, 19, 20, 21, 22, 23, 24, 25, 26, 27, 28, 29, 30, 31, 32, 33, 34, 35, 36, 37, 38, 39, 40, 41, 42, 43, 44, 45, 46, 47, 48, 49, 50, 51, 52, 53, 54, 55, 56, 57, 58, 59, 60, 61, 62, 63, 64, 65, 66, 67, 68, 69, 70, 71, 72, 73, 74, 75, 76, 77, 78, 79, 80, 81, 82, 83, 84, 85, 86, 87, 88, 89, 90, 91, 92, 93, 94, 95, 96, 97, 98, 99, 100, 101, 102] (by decide +kernel) (by decide +kernel)) (goodIn_sub (fun _ h => List.mem_cons_of_mem _ (List.mem_append_right _ h)) (by decide +kernel))
set_option maxRecDepth 20000 in
theorem gL_canMove_X9_canMove : GoodIn wsL_canMove (wsV RL 127 RX9 yX9_canMove wsX9_canMove) := goodIn_app (goodIn_of _ (by decide +kernel)) ggL_canMove_X9_canMove
theorem dL_canMove_0 : decode cL_canMove 0 = .ok (.aload 4, 2) := by decide +kernel
theorem dL_canMove_2 : decode cL_canMove 2 = .ok (.iconst 0, 1) := by decide +kernel
theorem dL_canMove_3 : decode cL_canMove 3 = .ok (.aload_n 0, 1) := by decide +kernel
theorem dL_canMove_4 : decode cL_canMove 4 = .ok (.iload_n 1, 1) := by decide +kernel
theorem dL_canMove_5 : decode cL_canMove 5 = .ok (.iload_n 2, 1) := by decide +kernel
theorem dL_canMove_6 : decode cL_canMove 6 = .ok (.iload_n 3, 1) := by decide +kernel
theorem dL_canMove_7 : decode cL_canMove 7 = .ok (.invokevirtual 127, 3) := by decide +kernel
theorem dL_canMove_10 : decode cL_canMove 10 = .ok (.ifCond .eq 7, 3) := by decide +kernel
theorem dL_canMove_13 : decode cL_canMove 13 = .ok (.lconst 1, 1) := by decide +kernel
theorem dL_canMove_14 : decode cL_canMove 14 = .ok (.goto 4, 3) := by decide +kernel
theorem dL_canMove_17 : decode cL_canMove 17 = .ok (.lconst 0, 1) := by decide +kernel
theorem dL_canMove_18 : decode cL_canMove 18 = .ok (.lastore, 1) := by decide +kernel
theorem dL_canMove_19 : decode cL_canMove 19 = .ok (.goto 7, 3) := by decide +kernel
theorem dL_canMove_22 : decode cL_canMove 22 = .ok (.astore 5, 2) := by decide +kernel
theorem dL_canMove_24 : decode cL_canMove 24 = .ok (.iconst 1, 1) := by decide +kernel
theorem dL_canMove_25 : decode cL_canMove 25 = .ok (.ireturn, 1) := by decide +kernel
theorem dL_canMove_26 : decode cL_canMove 26 = .ok (.iconst 0, 1) := by decide +kernel
theorem dL_canMove_27 : decode cL_canMove 27 = .ok (.ireturn, 1) := by decide +kernel
set_option maxRecDepth 20000 in
theorem ggL_suggestCell_X9_suggestCell : GoodIn wsL_suggestCell wsX9_suggestCell := goodIn_ca (goodIn_r _ [6, 7, 8, 9, 10, 5, 11, 12, 13, 14, 15, 16, 17, 18, 19, 20, 21, 22, 23, 24, 25, 26, 27, 28, 29, 30, 31, 32, 33, 34, 35, 36, 37, 38, 39, 40, 41, 42, 43, 44, 45, 46, 47, 48, 49, 50, 51, 52, 53, 54, 55, 56, 57, 58, 59, 60, 61, 62, 63, 64, 65, 66, 67, 68, 69, 70, 71, 72, 73, 74, 75, 76, 77, 78, 79, 80, 81, 82, 83, 84, 85, 86, 87, 88, 89, 90, 91, 92, 93, 94, 95, 96, 97, 98, 99, 100, 101, 102, 103, 104, 105, 106, 107, 108, 109, 110, 111, 112, 113, 114, 115, 116, 117, 118, 119, 120, 121, 122, 123, 124, 125, 126, 127, 128, 129, 130, 131, 132, 133, 134, 135, 136, 137, 138, 139, 140, 141, 142, 143, 144, 145, 146, 147, 148, 149, 150, 151, 152, 153, 154, 155, 156, 157, 158] (by decide +kernel) (by decide +kernel)) (goodIn_sub (fun _ h => List.mem_cons_of_mem _ (List.mem_append_right _ h)) (by decide +kernel))
set_option maxRecDepth 20000 in
theorem gL_suggestCell_X9_suggestCell : GoodIn wsL_suggestCell (wsV RL 131 RX9 yX9_suggestCell wsX9_suggestCell) := goodIn_app (goodIn_of _ (by decide +kernel)) ggL_suggestCell_X9_suggestCell
theorem dL_suggestCell_0 : decode cL_suggestCell 0 = .ok (.aload_n 2, 1) := by decide +kernel
theorem dL_suggestCell_1 : decode cL_suggestCell 1 = .ok (.iconst 0, 1) := by decide +kernel
theorem dL_suggestCell_2 : decode cL_suggestCell 2 = .ok (.aload_n 0, 1) := by decide +kernel
theorem dL_suggestCell_3 : decode cL_suggestCell 3 = .ok (.iload_n 1, 1) := by decide +kernel
theorem dL_suggestCell_4 : decode cL_suggestCell 4 = .ok (.invokevirtual 131, 3) := by decide +kernel
theorem dL_suggestCell_7 : decode cL_suggestCell 7 = .ok (.i2l, 1) := by decide +kernel
theorem dL_suggestCell_8 : decode cL_suggestCell 8 = .ok (.lastore, 1) := by decide +kernel
theorem dL_suggestCell_9 : decode cL_suggestCell 9 = .ok (.goto 6, 3) := by decide +kernel
theorem dL_suggestCell_12 : decode cL_suggestCell 12 = .ok (.astore_n 3, 1) := by decide +kernel
theorem dL_suggestCell_13 : decode cL_suggestCell 13 = .ok (.iconst 1, 1) := by decide +kernel
theorem dL_suggestCell_14 : decode cL_suggestCell 14 = .ok (.ireturn, 1) := by decide +kernel
theorem dL_suggestCell_15 : decode cL_suggestCell 15 = .ok (.iconst 0, 1) := by decide +kernel
theorem dL_suggestCell_16 : decode cL_suggestCell 16 = .ok (.ireturn, 1) := by decide +kernel
set_option maxRecDepth 20000 in
theorem ggL_trackByErrors_X9_trackByErrors : GoodIn wsL_trackByErrors wsX9_trackByErrors := goodIn_ca (goodIn_r _ [6, 7, 8, 9, 10, 11, 12, 13, 14, 15, 16, 17, 18, 19, 20, 21, 22, 23, 24, 25, 26, 27, 28, 29, 30, 31, 32, 33, 34, 35, 36, 37, 38, 39, 40, 41, 42, 43, 44, 45, 46, 47, 48, 49, 50, 51, 52, 53, 54, 55, 56, 57, 58, 59, 60, 61, 62, 63, 64, 65, 66, 67, 68, 69, 70, 71, 72, 73, 74, 75, 76, 77, 78, 79, 80, 81, 82, 83, 84, 85, 86, 87, 88, 89, 90, 91, 92, 93, 94, 95, 96, 97, 98, 99, 100, 101, 102, 103, 104, 105, 106, 107, 108, 109, 110, 111, 112, 113, 114, 115, 116, 117, 118] (by decide +kernel) (by decide +kernel)) (goodIn_sub (fun _ h => List.mem_cons_of_mem _ (List.mem_append_right _ h)) (by decide +kernel))
set_option maxRecDepth 20000 in
theorem gL_trackByErrors_X9_trackByErrors : GoodIn wsL_trackByErrors (wsV RL 134 RX9 yX9_trackByErrors wsX9_trackByErrors) := goodIn_app (goodIn_of _ (by decide +kernel)) ggL_trackByErrors_X9_trackByErrors
theorem dL_trackByErrors_0 : decode cL_trackByErrors 0 = .ok (.aload_n 2, 1) := by decide +kernel
theorem dL_trackByErrors_1 : decode cL_trackByErrors 1 = .ok (.iconst 0, 1) := by decide +kernel
theorem dL_trackByErrors_2 : decode cL_trackByErrors 2 = .ok (.aload_n 0, 1) := by decide +kernel
theorem dL_trackByErrors_3 : decode cL_trackByErrors 3 = .ok (.iload_n 1, 1) := by decide +kernel
theorem dL_trackByErrors_4 : decode cL_trackByErrors 4 = .ok (.invokevirtual 134, 3) := by decide +kernel
theorem dL_trackByErrors_7 : decode cL_trackByErrors 7 = .ok (.i2l, 1) := by decide +kernel
theorem dL_trackByErrors_8 : decode cL_trackByErrors 8 = .ok (.lastore, 1) := by decide +kernel
theorem dL_trackByErrors_9 : decode cL_trackByErrors 9 = .ok (.goto 6, 3) := by decide +kernel
theorem dL_trackByErrors_12 : decode cL_trackByErrors 12 = .ok (.astore_n 3, 1) := by decide +kernel
theorem dL_trackByErrors_13 : decode cL_trackByErrors 13 = .ok (.iconst 1, 1) := by decide +kernel
theorem dL_trackByErrors_14 : decode cL_trackByErrors 14 = .ok (.ireturn, 1) := by decide +kernel
theorem dL_trackByErrors_15 : decode cL_trackByErrors 15 = .ok (.iconst 0, 1) := by decide +kernel
theorem dL_trackByErrors_16 : decode cL_trackByErrors 16 = .ok (.ireturn, 1) := by decide +kernel
set_option maxRecDepth 20000 in
theorem ggL_printByDoubts_X9_printByDoubts : GoodIn wsL_printByDoubts wsX9_printByDoubts := goodIn_ca (goodIn_r _ [6, 7, 8, 9, 10, 11, 12, 13, 14, 15, 16, 17, 18, 19, 20, 21, 22, 23, 24, 25, 26, 27, 28, 29, 30, 31, 32, 33, 34, 35, 36, 37, 38, 39, 40, 41, 42, 43, 44, 45, 46, 47, 48, 49] (by decide +kernel) (by decide +kernel)) (goodIn_sub (fun _ h => List.mem_cons_of_mem _ (List.mem_append_right _ h)) (by decide +kernel))
set_option maxRecDepth 20000 in
theorem gL_printByDoubts_X9_printByDoubts : GoodIn wsL_printByDoubts (wsV RL 137 RX9 yX9_printByDoubts wsX9_printByDoubts) := goodIn_app (goodIn_of _ (by decide +kernel)) ggL_printByDoubts_X9_printByDoubts
theorem dL_printByDoubts_0 : decode cL_printByDoubts 0 = .ok (.aload_n 2, 1) := by decide +kernel
theorem dL_printByDoubts_1 : decode cL_printByDoubts 1 = .ok (.iconst 0, 1) := by decide +kernel
theorem dL_printByDoubts_2 : decode cL_printByDoubts 2 = .ok (.aload_n 0, 1) := by decide +kernel
theorem dL_printByDoubts_3 : decode cL_printByDoubts 3 = .ok (.iload_n 1, 1) := by decide +kernel
theorem dL_printByDoubts_4 : decode cL_printByDoubts 4 = .ok (.invokevirtual 137, 3) := by decide +kernel
theorem dL_printByDoubts_7 : decode cL_printByDoubts 7 = .ok (.i2l, 1) := by decide +kernel
theorem dL_printByDoubts_8 : decode cL_printByDoubts 8 = .ok (.lastore, 1) := by decide +kernel
theorem dL_printByDoubts_9 : decode cL_printByDoubts 9 = .ok (.goto 6, 3) := by decide +kernel
theorem dL_printByDoubts_12 : decode cL_printByDoubts 12 = .ok (.astore_n 3, 1) := by decide +kernel
theorem dL_printByDoubts_13 : decode cL_printByDoubts 13 = .ok (.iconst 1, 1) := by decide +kernel
theorem dL_printByDoubts_14 : decode cL_printByDoubts 14 = .ok (.ireturn, 1) := by decide +kernel
theorem dL_printByDoubts_15 : decode cL_printByDoubts 15 = .ok (.iconst 0, 1) := by decide +kernel
theorem dL_printByDoubts_16 : decode cL_printByDoubts 16 = .ok (.ireturn, 1) := by decide +kernel
set_option maxRecDepth 20000 in
theorem ggL_printIn_X9_printIn : GoodIn wsL_printIn wsX9_printIn := goodIn_ca (goodIn_ca (goodIn_r _ [7, 8, 9, 10, 11, 6, 12, 13, 14, 15, 16, 17, 18, 19, 20, 21, 22, 23, 24, 25, 26, 27, 28, 29, 30, 31, 32, 33, 34, 35, 36, 37, 38, 39, 40, 41, 42, 43, 44, 45, 46, 47, 48, 49, 50, 51, 52, 53, 54, 55, 56, 57, 58, 59, 60, 61] (by decide +kernel) (by decide +kernel)) (goodIn_sub (fun _ h => List.mem_cons_of_mem _ (List.mem_append_left _ (List.mem_append_right _ h))) (by decide +kernel))) (goodIn_sub (fun _ h => List.mem_cons_of_mem _ (List.mem_append_right _ h)) (by decide +kernel))
set_option maxRecDepth 20000 in
theorem gL_printIn_X9_printIn : GoodIn wsL_printIn (wsV RL 140 RX9 yX9_printIn wsX9_printIn) := goodIn_app (goodIn_of _ (by decide +kernel)) ggL_printIn_X9_printIn
theorem dL_printIn_0 : decode cL_printIn 0 = .ok (.aload_n 3, 1) := by decide +kernel
theorem dL_printIn_1 : decode cL_printIn 1 = .ok (.iconst 0, 1) := by decide +kernel
theorem dL_printIn_2 : decode cL_printIn 2 = .ok (.aload_n 0, 1) := by decide +kernel
theorem dL_printIn_3 : decode cL_printIn 3 = .ok (.iload_n 1, 1) := by decide +kernel
theorem dL_printIn_4 : decode cL_printIn 4 = .ok (.iload_n 2, 1) := by decide +kernel
theorem dL_printIn_5 : decode cL_printIn 5 = .ok (.invokevirtual 140, 3) := by decide +kernel
theorem dL_printIn_8 : decode cL_printIn 8 = .ok (.i2l, 1) := by decide +kernel
theorem dL_printIn_9 : decode cL_printIn 9 = .ok (.lastore, 1) := by decide +kernel
theorem dL_printIn_10 : decode cL_printIn 10 = .ok (.goto 11, 3) := by decide +kernel
theorem dL_printIn_13 : decode cL_printIn 13 = .ok (.astore 4, 2) := by decide +kernel
theorem dL_printIn_15 : decode cL_printIn 15 = .ok (.iconst 1, 1) := by decide +kernel
theorem dL_printIn_16 : decode cL_printIn 16 = .ok (.ireturn, 1) := by decide +kernel
theorem dL_printIn_17 : decode cL_printIn 17 = .ok (.astore 4, 2) := by decide +kernel
theorem dL_printIn_19 : decode cL_printIn 19 = .ok (.iconst 2, 1) := by decide +kernel
theorem dL_printIn_20 : decode cL_printIn 20 = .ok (.ireturn, 1) := by decide +kernel
theorem dL_printIn_21 : decode cL_printIn 21 = .ok (.iconst 0, 1) := by decide +kernel
theorem dL_printIn_22 : decode cL_printIn 22 = .ok (.ireturn, 1) := by decide +kernel
set_option maxRecDepth 20000 in
theorem ggL_printsInRow_X9_printsInRow : GoodIn wsL_printsInRow wsX9_printsInRow := goodIn_ca (goodIn_r _ [6, 7, 8, 9, 5, 10, 11, 12, 13, 14, 15, 16, 17, 18, 19, 20, 21, 22, 23, 24, 25, 26, 27, 28, 29, 30, 31, 32, 33, 34, 35, 36, 37, 38, 39, 40, 41, 42, 43, 44, 45, 46, 47, 48, 49, 50] (by decide +kernel) (by decide +kernel)) (goodIn_sub (fun _ h => List.mem_cons_of_mem _ (List.mem_append_right _ h)) (by decide +kernel))
set_option maxRecDepth 20000 in
theorem gL_printsInRow_X9_printsInRow : GoodIn wsL_printsInRow (wsV RL 143 RX9 yX9_printsInRow wsX9_printsInRow) := goodIn_app (goodIn_of _ (by decide +kernel)) ggL_printsInRow_X9_printsInRow
theorem dL_printsInRow_0 : decode cL_printsInRow 0 = .ok (.aload_n 2, 1) := by decide +kernel
theorem dL_printsInRow_1 : decode cL_printsInRow 1 = .ok (.iconst 0, 1) := by decide +kernel
theorem dL_printsInRow_2 : decode cL_printsInRow 2 = .ok (.aload_n 0, 1) := by decide +kernel
theorem dL_printsInRow_3 : decode cL_printsInRow 3 = .ok (.iload_n 1, 1) := by decide +kernel
theorem dL_printsInRow_4 : decode cL_printsInRow 4 = .ok (.invokevirtual 143, 3) := by decide +kernel
theorem dL_printsInRow_7 : decode cL_printsInRow 7 = .ok (.i2l, 1) := by decide +kernel
theorem dL_printsInRow_8 : decode cL_printsInRow 8 = .ok (.lastore, 1) := by decide +kernel
theorem dL_printsInRow_9 : decode cL_printsInRow 9 = .ok (.goto 6, 3) := by decide +kernel
theorem dL_printsInRow_12 : decode cL_printsInRow 12 = .ok (.astore_n 3, 1) := by decide +kernel
theorem dL_printsInRow_13 : decode cL_printsInRow 13 = .ok (.iconst 1, 1) := by decide +kernel
theorem dL_printsInRow_14 : decode cL_printsInRow 14 = .ok (.ireturn, 1) := by decide +kernel
theorem dL_printsInRow_15 : decode cL_printsInRow 15 = .ok (.iconst 0, 1) := by decide +kernel
theorem dL_printsInRow_16 : decode cL_printsInRow 16 = .ok (.ireturn, 1) := by decide +kernel
set_option maxRecDepth 20000 in
theorem ggL_erasedBy_X9_erasedBy : GoodIn wsL_erasedBy wsX9_erasedBy := goodIn_ca (goodIn_r _ [6, 7, 8, 9, 5, 10, 11, 12, 13, 14, 15, 16, 17, 18, 19, 20, 21, 22, 23, 24, 25, 26, 27, 28, 29, 30, 31, 32, 33, 34, 35, 36, 37, 38, 39, 40, 41, 42, 43, 44, 45, 46, 47, 48, 49, 50] (by decide +kernel) (by decide +kernel)) (goodIn_sub (fun _ h => List.mem_cons_of_mem _ (List.mem_append_right _ h)) (by decide +kernel))
set_option maxRecDepth 20000 in
theorem gL_erasedBy_X9_erasedBy : GoodIn wsL_erasedBy (wsV RL 146 RX9 yX9_erasedBy wsX9_erasedBy) := goodIn_app (goodIn_of _ (by decide +kernel)) ggL_erasedBy_X9_erasedBy
theorem dL_erasedBy_0 : decode cL_erasedBy 0 = .ok (.aload_n 2, 1) := by decide +kernel
theorem dL_erasedBy_1 : decode cL_erasedBy 1 = .ok (.iconst 0, 1) := by decide +kernel
theorem dL_erasedBy_2 : decode cL_erasedBy 2 = .ok (.aload_n 0, 1) := by decide +kernel
theorem dL_erasedBy_3 : decode cL_erasedBy 3 = .ok (.iload_n 1, 1) := by decide +kernel
theorem dL_erasedBy_4 : decode cL_erasedBy 4 = .ok (.invokevirtual 146, 3) := by decide +kernel
theorem dL_erasedBy_7 : decode cL_erasedBy 7 = .ok (.i2l, 1) := by decide +kernel
theorem dL_erasedBy_8 : decode cL_erasedBy 8 = .ok (.lastore, 1) := by decide +kernel
theorem dL_erasedBy_9 : decode cL_erasedBy 9 = .ok (.goto 6, 3) := by decide +kernel
theorem dL_erasedBy_12 : decode cL_erasedBy 12 = .ok (.astore_n 3, 1) := by decide +kernel
theorem dL_erasedBy_13 : decode cL_erasedBy 13 = .ok (.iconst 1, 1) := by decide +kernel
theorem dL_erasedBy_14 : decode cL_erasedBy 14 = .ok (.ireturn, 1) := by decide +kernel
theorem dL_erasedBy_15 : decode cL_erasedBy 15 = .ok (.iconst 0, 1) := by decide +kernel
theorem dL_erasedBy_16 : decode cL_erasedBy 16 = .ok (.ireturn, 1) := by decide +kernel
set_option maxRecDepth 20000 in
theorem ggL_lateShare_X9_lateShare : GoodIn wsL_lateShare wsX9_lateShare := goodIn_ca (goodIn_r _ [6, 7, 8, 9, 10, 11, 12, 13, 14, 15, 16, 17, 18, 19, 20, 21, 22, 23, 24, 25, 26, 27, 28, 29, 30, 31, 32, 33, 34, 35, 36, 37, 38, 39, 40, 41, 42, 43, 44, 45, 46, 47, 48, 49, 50, 51, 52, 53] (by decide +kernel) (by decide +kernel)) (goodIn_sub (fun _ h => List.mem_cons_of_mem _ (List.mem_append_right _ h)) (by decide +kernel))
set_option maxRecDepth 20000 in
theorem gL_lateShare_X9_lateShare : GoodIn wsL_lateShare (wsV RL 149 RX9 yX9_lateShare wsX9_lateShare) := goodIn_app (goodIn_of _ (by decide +kernel)) ggL_lateShare_X9_lateShare
theorem dL_lateShare_0 : decode cL_lateShare 0 = .ok (.aload_n 1, 1) := by decide +kernel
theorem dL_lateShare_1 : decode cL_lateShare 1 = .ok (.iconst 0, 1) := by decide +kernel
theorem dL_lateShare_2 : decode cL_lateShare 2 = .ok (.aload_n 0, 1) := by decide +kernel
theorem dL_lateShare_3 : decode cL_lateShare 3 = .ok (.invokevirtual 149, 3) := by decide +kernel
theorem dL_lateShare_6 : decode cL_lateShare 6 = .ok (.f2d, 1) := by decide +kernel
theorem dL_lateShare_7 : decode cL_lateShare 7 = .ok (.dastore, 1) := by decide +kernel
theorem dL_lateShare_8 : decode cL_lateShare 8 = .ok (.goto 6, 3) := by decide +kernel
theorem dL_lateShare_11 : decode cL_lateShare 11 = .ok (.astore_n 2, 1) := by decide +kernel
theorem dL_lateShare_12 : decode cL_lateShare 12 = .ok (.iconst 1, 1) := by decide +kernel
theorem dL_lateShare_13 : decode cL_lateShare 13 = .ok (.ireturn, 1) := by decide +kernel
theorem dL_lateShare_14 : decode cL_lateShare 14 = .ok (.iconst 0, 1) := by decide +kernel
theorem dL_lateShare_15 : decode cL_lateShare 15 = .ok (.ireturn, 1) := by decide +kernel
set_option maxRecDepth 20000 in
theorem ggL_writeTrack_X9_writeTrack : GoodIn wsL_writeTrack wsX9_writeTrack := goodIn_ca (goodIn_ca (goodIn_r _ [6, 7, 8, 9, 10, 11, 12, 5, 13, 14, 15, 16, 17, 18, 19, 20, 21, 22, 23, 24, 25, 26, 27, 28, 29, 30, 31, 32, 33, 34, 35, 36, 37, 38, 39, 40, 41, 42, 43, 44, 45, 46, 47, 48, 49, 50, 51, 52, 53, 54, 55, 56, 57, 58, 59, 60, 61, 62, 63, 64, 65, 66, 67, 68, 69, 70, 71, 72, 73, 74, 75, 76, 77, 78, 79, 80, 81, 82, 83, 84, 85, 86, 87, 88, 89, 90, 91, 92, 93, 94, 95, 96, 97, 98, 99, 100, 101, 102, 103, 104, 105, 106, 107, 108, 109, 110, 111, 112, 113, 114, 115, 116, 117, 118, 119, 120, 121, 122, 123, 124, 125, 126, 127, 128, 129, 130, 131, 132, 133, 134, 135, 136, 137, 138, 139, 140, 141, 142, 143, 144, 145, 146, 147, 148] (by decide +kernel) (by decide +kernel)) (goodIn_sub (fun _ h => List.mem_cons_of_mem _ (List.mem_append_right _ h)) (by decide +kernel))) (goodIn_sub (fun _ h => List.mem_cons_of_mem _ (List.mem_append_left _ (List.mem_append_right _ h))) (by decide +kernel))
set_option maxRecDepth 20000 in
theorem gL_writeTrack_X9_writeTrack : GoodIn wsL_writeTrack (wsV RL 153 RX9 yX9_writeTrack wsX9_writeTrack) := goodIn_app (goodIn_of _ (by decide +kernel)) ggL_writeTrack_X9_writeTrack
theorem dL_writeTrack_0 : decode cL_writeTrack 0 = .ok (.aload_n 2, 1) := by decide +kernel
theorem dL_writeTrack_1 : decode cL_writeTrack 1 = .ok (.iconst 0, 1) := by decide +kernel
theorem dL_writeTrack_2 : decode cL_writeTrack 2 = .ok (.aload_n 0, 1) := by decide +kernel
theorem dL_writeTrack_3 : decode cL_writeTrack 3 = .ok (.iload_n 1, 1) := by decide +kernel
theorem dL_writeTrack_4 : decode cL_writeTrack 4 = .ok (.invokevirtual 153, 3) := by decide +kernel
theorem dL_writeTrack_7 : decode cL_writeTrack 7 = .ok (.i2l, 1) := by decide +kernel
theorem dL_writeTrack_8 : decode cL_writeTrack 8 = .ok (.lastore, 1) := by decide +kernel
theorem dL_writeTrack_9 : decode cL_writeTrack 9 = .ok (.goto 6, 3) := by decide +kernel
theorem dL_writeTrack_12 : decode cL_writeTrack 12 = .ok (.astore_n 3, 1) := by decide +kernel
theorem dL_writeTrack_13 : decode cL_writeTrack 13 = .ok (.iconst 1, 1) := by decide +kernel
theorem dL_writeTrack_14 : decode cL_writeTrack 14 = .ok (.ireturn, 1) := by decide +kernel
theorem dL_writeTrack_15 : decode cL_writeTrack 15 = .ok (.iconst 0, 1) := by decide +kernel
theorem dL_writeTrack_16 : decode cL_writeTrack 16 = .ok (.ireturn, 1) := by decide +kernel
set_option maxRecDepth 20000 in
theorem ggL_writeRow_X9_writeRow : GoodIn wsL_writeRow wsX9_writeRow := goodIn_ca (goodIn_ca (goodIn_r _ [6, 7, 8, 9, 10, 5, 11, 12, 13, 14, 15, 16, 17, 18, 19, 20, 21, 22, 23, 24, 25, 26, 27, 28, 29, 30, 31, 32, 33, 34, 35, 36, 37, 38, 39, 40, 41, 42, 43, 44, 45, 46, 47, 48, 49, 50, 51, 52, 53, 54, 55, 56, 57, 58, 59, 60, 61, 62, 63, 64, 65, 66, 67, 68, 69, 70, 71, 72, 73, 74, 75, 76] (by decide +kernel) (by decide +kernel)) (goodIn_sub (fun _ h => List.mem_cons_of_mem _ (List.mem_append_right _ h)) (by decide +kernel))) (goodIn_sub (fun _ h => List.mem_cons_of_mem _ (List.mem_append_left _ (List.mem_append_right _ h))) (by decide +kernel))
set_option maxRecDepth 20000 in
theorem gL_writeRow_X9_writeRow : GoodIn wsL_writeRow (wsV RL 156 RX9 yX9_writeRow wsX9_writeRow) := goodIn_app (goodIn_of _ (by decide +kernel)) ggL_writeRow_X9_writeRow
theorem dL_writeRow_0 : decode cL_writeRow 0 = .ok (.aload_n 2, 1) := by decide +kernel
theorem dL_writeRow_1 : decode cL_writeRow 1 = .ok (.iconst 0, 1) := by decide +kernel
theorem dL_writeRow_2 : decode cL_writeRow 2 = .ok (.aload_n 0, 1) := by decide +kernel
theorem dL_writeRow_3 : decode cL_writeRow 3 = .ok (.iload_n 1, 1) := by decide +kernel
theorem dL_writeRow_4 : decode cL_writeRow 4 = .ok (.invokevirtual 156, 3) := by decide +kernel
theorem dL_writeRow_7 : decode cL_writeRow 7 = .ok (.i2l, 1) := by decide +kernel
theorem dL_writeRow_8 : decode cL_writeRow 8 = .ok (.lastore, 1) := by decide +kernel
theorem dL_writeRow_9 : decode cL_writeRow 9 = .ok (.goto 6, 3) := by decide +kernel
theorem dL_writeRow_12 : decode cL_writeRow 12 = .ok (.astore_n 3, 1) := by decide +kernel
theorem dL_writeRow_13 : decode cL_writeRow 13 = .ok (.iconst 1, 1) := by decide +kernel
theorem dL_writeRow_14 : decode cL_writeRow 14 = .ok (.ireturn, 1) := by decide +kernel
theorem dL_writeRow_15 : decode cL_writeRow 15 = .ok (.iconst 0, 1) := by decide +kernel
theorem dL_writeRow_16 : decode cL_writeRow 16 = .ok (.ireturn, 1) := by decide +kernel
set_option maxRecDepth 20000 in
theorem ggL_outputAt_X9_outputAt : GoodIn wsL_outputAt wsX9_outputAt := goodIn_ca (goodIn_ca (goodIn_r _ [6, 7, 8, 9, 10, 11, 12, 13, 14, 15, 16, 17, 18, 19, 20, 21, 22, 23, 24, 25, 26, 27, 28, 29, 30, 31, 32, 33] (by decide +kernel) (by decide +kernel)) (goodIn_sub (fun _ h => List.mem_cons_of_mem _ (List.mem_append_right _ h)) (by decide +kernel))) (goodIn_sub (fun _ h => List.mem_cons_of_mem _ (List.mem_append_left _ (List.mem_append_right _ h))) (by decide +kernel))
set_option maxRecDepth 20000 in
theorem gL_outputAt_X9_outputAt : GoodIn wsL_outputAt (wsV RL 159 RX9 yX9_outputAt wsX9_outputAt) := goodIn_app (goodIn_of _ (by decide +kernel)) ggL_outputAt_X9_outputAt
theorem dL_outputAt_0 : decode cL_outputAt 0 = .ok (.aload_n 2, 1) := by decide +kernel
theorem dL_outputAt_1 : decode cL_outputAt 1 = .ok (.iconst 0, 1) := by decide +kernel
theorem dL_outputAt_2 : decode cL_outputAt 2 = .ok (.aload_n 0, 1) := by decide +kernel
theorem dL_outputAt_3 : decode cL_outputAt 3 = .ok (.iload_n 1, 1) := by decide +kernel
theorem dL_outputAt_4 : decode cL_outputAt 4 = .ok (.invokevirtual 159, 3) := by decide +kernel
theorem dL_outputAt_7 : decode cL_outputAt 7 = .ok (.i2l, 1) := by decide +kernel
theorem dL_outputAt_8 : decode cL_outputAt 8 = .ok (.lastore, 1) := by decide +kernel
theorem dL_outputAt_9 : decode cL_outputAt 9 = .ok (.goto 6, 3) := by decide +kernel
theorem dL_outputAt_12 : decode cL_outputAt 12 = .ok (.astore_n 3, 1) := by decide +kernel
theorem dL_outputAt_13 : decode cL_outputAt 13 = .ok (.iconst 1, 1) := by decide +kernel
theorem dL_outputAt_14 : decode cL_outputAt 14 = .ok (.ireturn, 1) := by decide +kernel
theorem dL_outputAt_15 : decode cL_outputAt 15 = .ok (.iconst 0, 1) := by decide +kernel
theorem dL_outputAt_16 : decode cL_outputAt 16 = .ok (.ireturn, 1) := by decide +kernel
set_option maxRecDepth 20000 in
theorem ggL_appendInput_X9_appendInput : GoodIn wsL_appendInput wsX9_appendInput := goodIn_ca (goodIn_ca (goodIn_ca (goodIn_r _ [7, 8, 9, 10, 11, 12, 13, 14, 15, 16, 17, 18, 19, 20, 21, 22, 23, 24, 25, 26, 27, 28, 29, 30, 31, 32, 33, 34, 35, 36, 37, 38, 39, 40, 41, 42] (by decide +kernel) (by decide +kernel)) (goodIn_sub (fun _ h => List.mem_cons_of_mem _ (List.mem_append_left _ (List.mem_append_right _ h))) (by decide +kernel))) (goodIn_sub (fun _ h => List.mem_cons_of_mem _ (List.mem_append_right _ h)) (by decide +kernel))) (goodIn_sub (fun _ h => List.mem_cons_of_mem _ (List.mem_append_left _ (List.mem_append_left _ (List.mem_append_right _ h)))) (by decide +kernel))
set_option maxRecDepth 20000 in
theorem gL_appendInput_X9_appendInput : GoodIn wsL_appendInput (wsV RL 163 RX9 yX9_appendInput wsX9_appendInput) := goodIn_app (goodIn_of _ (by decide +kernel)) ggL_appendInput_X9_appendInput
theorem dL_appendInput_0 : decode cL_appendInput 0 = .ok (.aload_n 2, 1) := by decide +kernel
theorem dL_appendInput_1 : decode cL_appendInput 1 = .ok (.iconst 0, 1) := by decide +kernel
theorem dL_appendInput_2 : decode cL_appendInput 2 = .ok (.aload_n 0, 1) := by decide +kernel
theorem dL_appendInput_3 : decode cL_appendInput 3 = .ok (.iload_n 1, 1) := by decide +kernel
theorem dL_appendInput_4 : decode cL_appendInput 4 = .ok (.invokevirtual 163, 3) := by decide +kernel
theorem dL_appendInput_7 : decode cL_appendInput 7 = .ok (.i2l, 1) := by decide +kernel
theorem dL_appendInput_8 : decode cL_appendInput 8 = .ok (.lastore, 1) := by decide +kernel
theorem dL_appendInput_9 : decode cL_appendInput 9 = .ok (.goto 9, 3) := by decide +kernel
theorem dL_appendInput_12 : decode cL_appendInput 12 = .ok (.astore_n 3, 1) := by decide +kernel
theorem dL_appendInput_13 : decode cL_appendInput 13 = .ok (.iconst 1, 1) := by decide +kernel
theorem dL_appendInput_14 : decode cL_appendInput 14 = .ok (.ireturn, 1) := by decide +kernel
theorem dL_appendInput_15 : decode cL_appendInput 15 = .ok (.astore_n 3, 1) := by decide +kernel
theorem dL_appendInput_16 : decode cL_appendInput 16 = .ok (.iconst 2, 1) := by decide +kernel
theorem dL_appendInput_17 : decode cL_appendInput 17 = .ok (.ireturn, 1) := by decide +kernel
theorem dL_appendInput_18 : decode cL_appendInput 18 = .ok (.iconst 0, 1) := by decide +kernel
theorem dL_appendInput_19 : decode cL_appendInput 19 = .ok (.ireturn, 1) := by decide +kernel
set_option maxRecDepth 20000 in
theorem ggL_execute_X9_execute : GoodIn wsL_execute wsX9_execute := goodIn_ca (goodIn_ca (goodIn_ca (goodIn_ca (goodIn_r _ [8, 9, 10, 11, 12, 13, 14, 15, 16, 17, 18, 19, 20, 21, 22, 23, 24, 25, 26, 27, 28, 29, 30, 31, 32, 33, 34, 35, 36, 37, 38, 39, 40, 41, 42, 43, 44, 45, 46, 47, 48, 49, 50, 51, 52, 53, 54, 55, 56, 57, 58, 59, 60, 61, 62, 63, 64, 65, 66, 67, 68, 69, 70, 71, 72, 73, 74, 75, 76, 77, 78, 79, 80, 81, 82, 83, 84, 85, 86, 87, 88, 89, 90, 91, 92, 93, 94, 95, 96, 97, 98, 99, 100, 101, 102, 103, 104, 105, 106, 107, 108, 109, 110, 111, 112, 113, 114, 115, 116, 117, 118, 119, 120, 121, 122, 123, 124, 125, 126, 127, 128, 129, 130, 131, 132, 133, 134, 135, 136, 137, 138, 139, 140, 141, 142, 143, 144, 145, 146, 147, 148, 149, 150, 151, 152, 153, 154, 155, 156, 157, 158, 159, 160, 161, 7, 162, 163, 164, 165, 166, 167, 168, 169, 170, 171, 172, 173, 174, 175, 176, 177, 178, 179, 180, 181, 182, 183, 184, 185, 186, 187, 188, 189, 190, 191, 192, 193, 194, 195, 196, 197, 198, 199, 200, 201, 202, 203, 204, 205, 206, 207, 208, 209, 210, 211, 212, 213, 214, 215, 216, 217, 218, 219, 220, 221, 222, 223, 224, 225, 226, 227, 228, 229, 230, 231, 232, 233, 234, 235, 236, 237, 238, 239, 240, 241, 242, 243, 244, 245, 246, 247, 248, 249, 250, 251, 252, 253, 254, 255, 256, 257, 258, 259, 260, 261, 262, 263, 264, 265, 266, 267, 268, 269, 270, 271, 272, 273, 274, 275, 276, 277, 278, 279, 280, 281, 282, 283, 284, 285, 286, 287, 288, 289, 290, 291, 292, 293, 294, 295, 296, 297, 298, 299, 300, 301, 302, 303, 304, 305, 306, 307, 308, 309, 310, 311, 312, 313, 314, 315, 316, 317, 318, 319, 320, 321, 322, 323, 324, 325, 326, 327, 328, 329, 330, 331, 332, 333, 334, 335, 336, 337, 338, 339, 340, 341, 342, 343, 344, 345, 346, 347, 348, 349, 350, 351, 352, 353, 354, 355, 356, 357, 358, 359, 360, 361, 362, 363, 364, 365, 366, 367, 368, 369, 370, 371, 372, 373, 374, 375, 376, 377, 378, 379, 380, 381, 382, 383, 384, 385, 386, 387, 388, 389, 390, 391, 392, 393, 394, 395, 396, 397, 398, 399, 400, 401, 402, 403, 404, 405] (by decide +kernel) (by decide +kernel)) (goodIn_sub (fun _ h => List.mem_cons_of_mem _ (List.mem_append_left _ (List.mem_append_left _ (List.mem_append_right _ h)))) (by decide +kernel))) (goodIn_sub (fun _ h => List.mem_cons_of_mem _ (List.mem_append_left _ (List.mem_append_left _ (List.mem_append_left _ (List.mem_append_right _ h))))) (by decide +kernel))) (goodIn_sub (fun _ h => List.mem_cons_of_mem _ (List.mem_append_left _ (List.mem_append_right _ h))) (by decide +kernel))) (goodIn_sub (fun _ h => List.mem_cons_of_mem _ (List.mem_append_right _ h)) (by decide +kernel))
set_option maxRecDepth 20000 in
theorem gL_execute_X9_execute : GoodIn wsL_execute (wsV RL 169 RX9 yX9_execute wsX9_execute) := goodIn_app (goodIn_of _ (by decide +kernel)) ggL_execute_X9_execute
theorem dL_execute_0 : decode cL_execute 0 = .ok (.aload_n 1, 1) := by decide +kernel
theorem dL_execute_1 : decode cL_execute 1 = .ok (.iconst 0, 1) := by decide +kernel
theorem dL_execute_2 : decode cL_execute 2 = .ok (.aload_n 0, 1) := by decide +kernel
theorem dL_execute_3 : decode cL_execute 3 = .ok (.invokevirtual 169, 3) := by decide +kernel
theorem dL_execute_6 : decode cL_execute 6 = .ok (.i2l, 1) := by decide +kernel
theorem dL_execute_7 : decode cL_execute 7 = .ok (.lastore, 1) := by decide +kernel
theorem dL_execute_8 : decode cL_execute 8 = .ok (.goto 12, 3) := by decide +kernel
theorem dL_execute_11 : decode cL_execute 11 = .ok (.astore_n 2, 1) := by decide +kernel
theorem dL_execute_12 : decode cL_execute 12 = .ok (.iconst 1, 1) := by decide +kernel
theorem dL_execute_13 : decode cL_execute 13 = .ok (.ireturn, 1) := by decide +kernel
theorem dL_execute_14 : decode cL_execute 14 = .ok (.astore_n 2, 1) := by decide +kernel
theorem dL_execute_15 : decode cL_execute 15 = .ok (.iconst 2, 1) := by decide +kernel
theorem dL_execute_16 : decode cL_execute 16 = .ok (.ireturn, 1) := by decide +kernel
theorem dL_execute_17 : decode cL_execute 17 = .ok (.astore_n 2, 1) := by decide +kernel
theorem dL_execute_18 : decode cL_execute 18 = .ok (.iconst 3, 1) := by decide +kernel
theorem dL_execute_19 : decode cL_execute 19 = .ok (.ireturn, 1) := by decide +kernel
theorem dL_execute_20 : decode cL_execute 20 = .ok (.iconst 0, 1) := by decide +kernel
theorem dL_execute_21 : decode cL_execute 21 = .ok (.ireturn, 1) := by decide +kernel
set_option maxRecDepth 20000 in
theorem ggL_syntaxErrorOffset_X9_syntaxErrorOffset : GoodIn wsL_syntaxErrorOffset wsX9_syntaxErrorOffset := goodIn_ca (goodIn_r _ [6, 7, 8, 9, 10, 11, 12, 13, 14, 15, 16, 17, 18, 19] (by decide +kernel) (by decide +kernel)) (goodIn_sub (fun _ h => List.mem_cons_of_mem _ (List.mem_append_right _ h)) (by decide +kernel))
set_option maxRecDepth 20000 in
theorem gL_syntaxErrorOffset_X9_syntaxErrorOffset : GoodIn wsL_syntaxErrorOffset (wsV RL 173 RX9 yX9_syntaxErrorOffset wsX9_syntaxErrorOffset) := goodIn_app (goodIn_of _ (by decide +kernel)) ggL_syntaxErrorOffset_X9_syntaxErrorOffset
theorem dL_syntaxErrorOffset_0 : decode cL_syntaxErrorOffset 0 = .ok (.aload_n 1, 1) := by decide +kernel
theorem dL_syntaxErrorOffset_1 : decode cL_syntaxErrorOffset 1 = .ok (.iconst 0, 1) := by decide +kernel
theorem dL_syntaxErrorOffset_2 : decode cL_syntaxErrorOffset 2 = .ok (.aload_n 0, 1) := by decide +kernel
theorem dL_syntaxErrorOffset_3 : decode cL_syntaxErrorOffset 3 = .ok (.invokevirtual 173, 3) := by decide +kernel
theorem dL_syntaxErrorOffset_6 : decode cL_syntaxErrorOffset 6 = .ok (.i2l, 1) := by decide +kernel
theorem dL_syntaxErrorOffset_7 : decode cL_syntaxErrorOffset 7 = .ok (.lastore, 1) := by decide +kernel
theorem dL_syntaxErrorOffset_8 : decode cL_syntaxErrorOffset 8 = .ok (.goto 6, 3) := by decide +kernel
theorem dL_syntaxErrorOffset_11 : decode cL_syntaxErrorOffset 11 = .ok (.astore_n 2, 1) := by decide +kernel
theorem dL_syntaxErrorOffset_12 : decode cL_syntaxErrorOffset 12 = .ok (.iconst 1, 1) := by decide +kernel
theorem dL_syntaxErrorOffset_13 : decode cL_syntaxErrorOffset 13 = .ok (.ireturn, 1) := by decide +kernel
theorem dL_syntaxErrorOffset_14 : decode cL_syntaxErrorOffset 14 = .ok (.iconst 0, 1) := by decide +kernel
theorem dL_syntaxErrorOffset_15 : decode cL_syntaxErrorOffset 15 = .ok (.ireturn, 1) := by decide +kernel
set_option maxRecDepth 20000 in
theorem ggL_rejectionReason_X9_rejectionReason : GoodIn wsL_rejectionReason wsX9_rejectionReason := goodIn_ca (goodIn_r _ [6, 7, 8, 9, 10, 5, 11, 12, 13, 14, 15, 16, 17, 18, 19, 20, 21, 22, 23, 24, 25, 26] (by decide +kernel) (by decide +kernel)) (goodIn_sub (fun _ h => List.mem_cons_of_mem _ (List.mem_append_right _ h)) (by decide +kernel))
set_option maxRecDepth 20000 in
theorem gL_rejectionReason_X9_rejectionReason : GoodIn wsL_rejectionReason (wsV RL 176 RX9 yX9_rejectionReason wsX9_rejectionReason) := goodIn_app (goodIn_of _ (by decide +kernel)) ggL_rejectionReason_X9_rejectionReason
theorem dL_rejectionReason_0 : decode cL_rejectionReason 0 = .ok (.aload_n 1, 1) := by decide +kernel
theorem dL_rejectionReason_1 : decode cL_rejectionReason 1 = .ok (.iconst 0, 1) := by decide +kernel
theorem dL_rejectionReason_2 : decode cL_rejectionReason 2 = .ok (.aload_n 0, 1) := by decide +kernel
theorem dL_rejectionReason_3 : decode cL_rejectionReason 3 = .ok (.invokevirtual 176, 3) := by decide +kernel
theorem dL_rejectionReason_6 : decode cL_rejectionReason 6 = .ok (.i2l, 1) := by decide +kernel
theorem dL_rejectionReason_7 : decode cL_rejectionReason 7 = .ok (.lastore, 1) := by decide +kernel
theorem dL_rejectionReason_8 : decode cL_rejectionReason 8 = .ok (.goto 6, 3) := by decide +kernel
theorem dL_rejectionReason_11 : decode cL_rejectionReason 11 = .ok (.astore_n 2, 1) := by decide +kernel
theorem dL_rejectionReason_12 : decode cL_rejectionReason 12 = .ok (.iconst 1, 1) := by decide +kernel
theorem dL_rejectionReason_13 : decode cL_rejectionReason 13 = .ok (.ireturn, 1) := by decide +kernel
theorem dL_rejectionReason_14 : decode cL_rejectionReason 14 = .ok (.iconst 0, 1) := by decide +kernel
theorem dL_rejectionReason_15 : decode cL_rejectionReason 15 = .ok (.ireturn, 1) := by decide +kernel
set_option maxRecDepth 20000 in
theorem ggL_rejectionDetail_X9_rejectionDetail : GoodIn wsL_rejectionDetail wsX9_rejectionDetail := goodIn_ca (goodIn_r _ [6, 7, 8, 9, 10, 5, 11, 12, 13, 14, 15, 16, 17, 18, 19, 20, 21, 22, 23, 24, 25, 26] (by decide +kernel) (by decide +kernel)) (goodIn_sub (fun _ h => List.mem_cons_of_mem _ (List.mem_append_right _ h)) (by decide +kernel))
set_option maxRecDepth 20000 in
theorem gL_rejectionDetail_X9_rejectionDetail : GoodIn wsL_rejectionDetail (wsV RL 179 RX9 yX9_rejectionDetail wsX9_rejectionDetail) := goodIn_app (goodIn_of _ (by decide +kernel)) ggL_rejectionDetail_X9_rejectionDetail
theorem dL_rejectionDetail_0 : decode cL_rejectionDetail 0 = .ok (.aload_n 1, 1) := by decide +kernel
theorem dL_rejectionDetail_1 : decode cL_rejectionDetail 1 = .ok (.iconst 0, 1) := by decide +kernel
theorem dL_rejectionDetail_2 : decode cL_rejectionDetail 2 = .ok (.aload_n 0, 1) := by decide +kernel
theorem dL_rejectionDetail_3 : decode cL_rejectionDetail 3 = .ok (.invokevirtual 179, 3) := by decide +kernel
theorem dL_rejectionDetail_6 : decode cL_rejectionDetail 6 = .ok (.i2l, 1) := by decide +kernel
theorem dL_rejectionDetail_7 : decode cL_rejectionDetail 7 = .ok (.lastore, 1) := by decide +kernel
theorem dL_rejectionDetail_8 : decode cL_rejectionDetail 8 = .ok (.goto 6, 3) := by decide +kernel
theorem dL_rejectionDetail_11 : decode cL_rejectionDetail 11 = .ok (.astore_n 2, 1) := by decide +kernel
theorem dL_rejectionDetail_12 : decode cL_rejectionDetail 12 = .ok (.iconst 1, 1) := by decide +kernel
theorem dL_rejectionDetail_13 : decode cL_rejectionDetail 13 = .ok (.ireturn, 1) := by decide +kernel
theorem dL_rejectionDetail_14 : decode cL_rejectionDetail 14 = .ok (.iconst 0, 1) := by decide +kernel
theorem dL_rejectionDetail_15 : decode cL_rejectionDetail 15 = .ok (.ireturn, 1) := by decide +kernel
set_option maxRecDepth 20000 in
theorem ggL_causeReason_X9_causeReason : GoodIn wsL_causeReason wsX9_causeReason := goodIn_ca (goodIn_r _ [6, 7, 8, 9, 10, 11, 5, 12, 13, 14, 15, 16, 17, 18, 19, 20, 21, 22, 23, 24, 25, 26, 27] (by decide +kernel) (by decide +kernel)) (goodIn_sub (fun _ h => List.mem_cons_of_mem _ (List.mem_append_right _ h)) (by decide +kernel))
set_option maxRecDepth 20000 in
theorem gL_causeReason_X9_causeReason : GoodIn wsL_causeReason (wsV RL 182 RX9 yX9_causeReason wsX9_causeReason) := goodIn_app (goodIn_of _ (by decide +kernel)) ggL_causeReason_X9_causeReason
theorem dL_causeReason_0 : decode cL_causeReason 0 = .ok (.aload_n 1, 1) := by decide +kernel
theorem dL_causeReason_1 : decode cL_causeReason 1 = .ok (.iconst 0, 1) := by decide +kernel
theorem dL_causeReason_2 : decode cL_causeReason 2 = .ok (.aload_n 0, 1) := by decide +kernel
theorem dL_causeReason_3 : decode cL_causeReason 3 = .ok (.invokevirtual 182, 3) := by decide +kernel
theorem dL_causeReason_6 : decode cL_causeReason 6 = .ok (.i2l, 1) := by decide +kernel
theorem dL_causeReason_7 : decode cL_causeReason 7 = .ok (.lastore, 1) := by decide +kernel
theorem dL_causeReason_8 : decode cL_causeReason 8 = .ok (.goto 6, 3) := by decide +kernel
theorem dL_causeReason_11 : decode cL_causeReason 11 = .ok (.astore_n 2, 1) := by decide +kernel
theorem dL_causeReason_12 : decode cL_causeReason 12 = .ok (.iconst 1, 1) := by decide +kernel
theorem dL_causeReason_13 : decode cL_causeReason 13 = .ok (.ireturn, 1) := by decide +kernel
theorem dL_causeReason_14 : decode cL_causeReason 14 = .ok (.iconst 0, 1) := by decide +kernel
theorem dL_causeReason_15 : decode cL_causeReason 15 = .ok (.ireturn, 1) := by decide +kernel
set_option maxRecDepth 20000 in
theorem ggL_causeDetail_X9_causeDetail : GoodIn wsL_causeDetail wsX9_causeDetail := goodIn_ca (goodIn_r _ [6, 7, 8, 9, 10, 11, 5, 12, 13, 14, 15, 16, 17, 18, 19, 20, 21, 22, 23, 24, 25, 26, 27] (by decide +kernel) (by decide +kernel)) (goodIn_sub (fun _ h => List.mem_cons_of_mem _ (List.mem_append_right _ h)) (by decide +kernel))
set_option maxRecDepth 20000 in
theorem gL_causeDetail_X9_causeDetail : GoodIn wsL_causeDetail (wsV RL 185 RX9 yX9_causeDetail wsX9_causeDetail) := goodIn_app (goodIn_of _ (by decide +kernel)) ggL_causeDetail_X9_causeDetail
theorem dL_causeDetail_0 : decode cL_causeDetail 0 = .ok (.aload_n 1, 1) := by decide +kernel
theorem dL_causeDetail_1 : decode cL_causeDetail 1 = .ok (.iconst 0, 1) := by decide +kernel
theorem dL_causeDetail_2 : decode cL_causeDetail 2 = .ok (.aload_n 0, 1) := by decide +kernel
theorem dL_causeDetail_3 : decode cL_causeDetail 3 = .ok (.invokevirtual 185, 3) := by decide +kernel
theorem dL_causeDetail_6 : decode cL_causeDetail 6 = .ok (.i2l, 1) := by decide +kernel
theorem dL_causeDetail_7 : decode cL_causeDetail 7 = .ok (.lastore, 1) := by decide +kernel
theorem dL_causeDetail_8 : decode cL_causeDetail 8 = .ok (.goto 6, 3) := by decide +kernel
theorem dL_causeDetail_11 : decode cL_causeDetail 11 = .ok (.astore_n 2, 1) := by decide +kernel
theorem dL_causeDetail_12 : decode cL_causeDetail 12 = .ok (.iconst 1, 1) := by decide +kernel
theorem dL_causeDetail_13 : decode cL_causeDetail 13 = .ok (.ireturn, 1) := by decide +kernel
theorem dL_causeDetail_14 : decode cL_causeDetail 14 = .ok (.iconst 0, 1) := by decide +kernel
theorem dL_causeDetail_15 : decode cL_causeDetail 15 = .ok (.ireturn, 1) := by decide +kernel
set_option maxRecDepth 20000 in
theorem ggL_undo_X9_undo : GoodIn wsL_undo wsX9_undo := goodIn_ca (goodIn_r _ [6, 7, 8, 9, 10, 11, 12, 13, 14, 15, 16, 17, 18, 19, 20, 21, 22, 23, 24, 25, 26, 27, 28, 29, 30, 31, 32, 33, 34, 35, 36, 37, 38, 39, 40, 41, 42, 43, 44, 45, 46, 47, 48, 49, 50, 51, 52, 53, 54, 55, 56, 57, 58, 59, 60, 61, 62, 63, 64, 65, 66, 67, 68, 69, 70, 71, 72, 73, 74, 75, 76, 77, 78, 79, 80, 81, 82, 83, 84, 85, 86, 87, 88, 89] (by decide +kernel) (by decide +kernel)) (goodIn_sub (fun _ h => List.mem_cons_of_mem _ (List.mem_append_right _ h)) (by decide +kernel))
set_option maxRecDepth 20000 in
theorem gL_undo_X9_undo : GoodIn wsL_undo (wsV RL 188 RX9 yX9_undo wsX9_undo) := goodIn_app (goodIn_of _ (by decide +kernel)) ggL_undo_X9_undo
theorem dL_undo_0 : decode cL_undo 0 = .ok (.aload_n 1, 1) := by decide +kernel
theorem dL_undo_1 : decode cL_undo 1 = .ok (.iconst 0, 1) := by decide +kernel
theorem dL_undo_2 : decode cL_undo 2 = .ok (.aload_n 0, 1) := by decide +kernel
theorem dL_undo_3 : decode cL_undo 3 = .ok (.invokevirtual 188, 3) := by decide +kernel
theorem dL_undo_6 : decode cL_undo 6 = .ok (.i2l, 1) := by decide +kernel
theorem dL_undo_7 : decode cL_undo 7 = .ok (.lastore, 1) := by decide +kernel
theorem dL_undo_8 : decode cL_undo 8 = .ok (.goto 6, 3) := by decide +kernel
theorem dL_undo_11 : decode cL_undo 11 = .ok (.astore_n 2, 1) := by decide +kernel
theorem dL_undo_12 : decode cL_undo 12 = .ok (.iconst 1, 1) := by decide +kernel
theorem dL_undo_13 : decode cL_undo 13 = .ok (.ireturn, 1) := by decide +kernel
theorem dL_undo_14 : decode cL_undo 14 = .ok (.iconst 0, 1) := by decide +kernel
theorem dL_undo_15 : decode cL_undo 15 = .ok (.ireturn, 1) := by decide +kernel
set_option maxRecDepth 20000 in
theorem ggL_restoreSnapshot_X9_restoreSnapshot : GoodIn wsL_restoreSnapshot wsX9_restoreSnapshot := goodIn_ca (goodIn_r _ [6, 7, 8, 9, 10, 11, 12, 13, 14, 15, 16, 17, 18, 19, 20, 21, 22, 23, 24, 25, 26, 27, 28, 29, 30, 31, 32, 33, 34, 35, 36, 37, 38, 39, 40, 41, 42, 43, 44, 45, 46, 47, 48, 49, 50, 51, 52, 53, 54, 55, 56, 57, 58, 59, 60, 61, 62, 63, 64, 65, 66, 67, 68, 69, 70, 71, 72, 73, 74, 75, 76, 77, 78, 79, 80, 81, 82, 83, 84, 85, 86, 87, 88, 89, 90, 91, 92, 93, 94, 95] (by decide +kernel) (by decide +kernel)) (goodIn_sub (fun _ h => List.mem_cons_of_mem _ (List.mem_append_right _ h)) (by decide +kernel))
set_option maxRecDepth 20000 in
theorem gL_restoreSnapshot_X9_restoreSnapshot : GoodIn wsL_restoreSnapshot (wsV RL 191 RX9 yX9_restoreSnapshot wsX9_restoreSnapshot) := goodIn_app (goodIn_of _ (by decide +kernel)) ggL_restoreSnapshot_X9_restoreSnapshot
theorem dL_restoreSnapshot_0 : decode cL_restoreSnapshot 0 = .ok (.aload_n 1, 1) := by decide +kernel
theorem dL_restoreSnapshot_1 : decode cL_restoreSnapshot 1 = .ok (.iconst 0, 1) := by decide +kernel
theorem dL_restoreSnapshot_2 : decode cL_restoreSnapshot 2 = .ok (.aload_n 0, 1) := by decide +kernel
theorem dL_restoreSnapshot_3 : decode cL_restoreSnapshot 3 = .ok (.invokevirtual 191, 3) := by decide +kernel
theorem dL_restoreSnapshot_6 : decode cL_restoreSnapshot 6 = .ok (.i2l, 1) := by decide +kernel
theorem dL_restoreSnapshot_7 : decode cL_restoreSnapshot 7 = .ok (.lastore, 1) := by decide +kernel
theorem dL_restoreSnapshot_8 : decode cL_restoreSnapshot 8 = .ok (.goto 6, 3) := by decide +kernel
theorem dL_restoreSnapshot_11 : decode cL_restoreSnapshot 11 = .ok (.astore_n 2, 1) := by decide +kernel
theorem dL_restoreSnapshot_12 : decode cL_restoreSnapshot 12 = .ok (.iconst 1, 1) := by decide +kernel
theorem dL_restoreSnapshot_13 : decode cL_restoreSnapshot 13 = .ok (.ireturn, 1) := by decide +kernel
theorem dL_restoreSnapshot_14 : decode cL_restoreSnapshot 14 = .ok (.iconst 0, 1) := by decide +kernel
theorem dL_restoreSnapshot_15 : decode cL_restoreSnapshot 15 = .ok (.ireturn, 1) := by decide +kernel
set_option maxRecDepth 20000 in
theorem ggL_law_X9_init : GoodIn wsL_law wsX9_init := goodIn_r _ [10, 11, 12, 13, 14, 15, 16, 17, 18, 19, 20, 21, 22, 23, 24, 25, 26, 27, 28, 29, 30, 31, 32, 33, 34, 35, 36, 37, 38, 39, 40, 41, 42, 43, 44, 45, 46, 47, 48, 49, 50, 51, 52, 53, 54, 55, 56, 57, 58, 59, 60, 61, 62, 63, 64, 65, 66, 67, 68, 69, 70, 71, 72, 73, 74, 75, 76, 77, 78, 79, 80, 81, 82, 83, 84, 85, 86, 87, 88, 1567, 1568, 1569, 1570, 1571, 1572, 1573, 1539, 1540, 1541, 1542, 1543, 1544, 1545, 1546, 1547, 1548, 1574, 1575, 1576, 1577, 1578, 1579, 1580, 1581, 1582, 1583, 1584, 1585, 1586, 1587, 1588, 1589, 1590, 1591, 1592, 1593, 1594, 1595, 1596, 1597, 1598, 1599, 1600, 1601, 1602, 1603] (by decide +kernel) (by decide +kernel)
set_option maxRecDepth 20000 in
theorem gL_law_X9_init : GoodIn wsL_law (wsX9_init) := ggL_law_X9_init
set_option maxRecDepth 20000 in
theorem ggL_law_X10_init : GoodIn wsL_law wsX10_init := goodIn_r _ [91, 92, 12, 13, 93, 94, 36, 95, 96, 97, 98, 1549, 1550, 1551, 1552, 1553, 1554, 1555, 1556, 1557, 1558, 1559, 1560, 1561, 1562, 1563, 1564, 1565, 1566] (by decide +kernel) (by decide +kernel)
set_option maxRecDepth 20000 in
theorem gL_law_X10_init : GoodIn wsL_law (wsX10_init) := ggL_law_X10_init
set_option maxRecDepth 20000 in
theorem ggL_law_L_addTrack : GoodIn wsL_law wsL_addTrack := goodIn_ca (goodIn_ca (goodIn_ca (goodIn_r _ [102, 103, 104, 105, 106, 107, 2, 108, 109, 110, 17, 25, 111, 112, 113, 114, 115, 116, 16, 117, 118, 119, 120, 121, 122, 123, 124, 45, 125, 126, 127, 128, 129, 12, 13, 130, 131, 132, 133, 134, 135, 136, 137, 138, 38, 139, 140, 141, 24, 142, 68, 143, 144, 145, 146, 147, 148, 149, 150, 151, 49, 152, 153, 154, 155, 156, 157, 158, 159, 47, 160, 161, 162, 163, 164, 165, 166, 51, 167, 168, 169, 170, 171, 172, 173, 174, 175, 176, 177, 178, 179, 180, 181, 182, 183, 1539, 1540, 1541, 1542, 1543, 1544, 1545, 1546, 1547, 1548, 1604, 1605, 1606, 1567, 1568, 1569, 1570, 1571, 1572, 1573, 1584, 1585, 1586, 1575, 1576, 1587, 1588, 1589, 1590, 1591, 1592, 1593, 1594, 1595, 1596] (by decide +kernel) (by decide +kernel)) (goodIn_sub (fun _ h => List.mem_append_left _ (List.mem_append_left _ (List.mem_append_left _ (List.mem_append_left _ (List.mem_append_left _ (List.mem_append_left _ (List.mem_append_right _ h))))))) (by decide +kernel))) (goodIn_sub (fun _ h => List.mem_append_left _ (List.mem_append_left _ (List.mem_append_left _ (List.mem_append_left _ (List.mem_append_left _ (List.mem_append_right _ h)))))) (by decide +kernel))) (goodIn_sub (fun _ h => List.mem_append_left _ (List.mem_append_left _ (List.mem_append_left _ (List.mem_append_left _ (List.mem_append_right _ h))))) (by decide +kernel))
set_option maxRecDepth 20000 in
theorem gL_law_L_addTrack : GoodIn wsL_law (va_wsS RL 198 yL_addTrack wsL_addTrack) := goodIn_app (goodIn_of _ (by decide +kernel)) ggL_law_L_addTrack
set_option maxRecDepth 20000 in
theorem ggL_law_X10_addTrack : GoodIn wsL_law wsX10_addTrack := goodIn_ca (goodIn_r _ [187, 188, 189, 190, 5, 191, 192, 193, 194, 195, 94, 196, 197, 198, 199, 200, 201, 202, 203, 204, 205, 206, 207, 208, 209, 210, 211, 212, 213, 214, 215, 216, 1549, 1550, 1551, 1552, 1553, 1554, 1555, 1556, 1557, 1558, 1559, 1560, 1561, 1562, 1563, 1564, 1565, 1566] (by decide +kernel) (by decide +kernel)) (goodIn_sub (fun _ h => List.mem_append_left _ (List.mem_append_left _ (List.mem_append_left _ (List.mem_append_left _ (List.mem_append_left _ (List.mem_append_left _ (List.mem_append_right _ h))))))) (by decide +kernel))
set_option maxRecDepth 20000 in
theorem gL_law_X10_addTrack : GoodIn wsL_law (wsV RL 203 RX10 yX10_addTrack wsX10_addTrack) := goodIn_app (goodIn_of _ (by decide +kernel)) ggL_law_X10_addTrack
set_option maxRecDepth 20000 in
theorem ggL_law_X10_thrown : GoodIn wsL_law wsX10_thrown := goodIn_r _ [220, 215, 1549, 1550, 1551, 1552, 1553, 1554, 1555, 1556, 1557, 1558, 1559, 1560, 1561, 1562, 1563, 1564, 1565, 1566] (by decide +kernel) (by decide +kernel)
set_option maxRecDepth 20000 in
theorem gL_law_X10_thrown : GoodIn wsL_law (wsV RL 204 RX10 yX10_thrown wsX10_thrown) := goodIn_app (goodIn_of _ (by decide +kernel)) ggL_law_X10_thrown
set_option maxRecDepth 20000 in
theorem ggL_law_L_removeTrack : GoodIn wsL_law wsL_removeTrack := goodIn_ca (goodIn_ca (goodIn_r _ [223, 224, 225, 226, 227, 2, 228, 25, 17, 229, 230, 231, 232, 233, 234, 235, 236, 237, 16, 238, 45, 125, 182, 139, 140, 141, 24, 142, 68, 143, 144, 145, 146, 147, 148, 149, 150, 151, 49, 152, 153, 154, 155, 156, 157, 158, 159, 47, 160, 161, 162, 163, 164, 165, 166, 51, 167, 168, 169, 170, 171, 172, 173, 174, 175, 176, 177, 239, 240, 241, 242, 243, 244, 245, 246, 247, 1539, 1540, 1541, 1542, 1543, 1544, 1545, 1546, 1547, 1548, 1567, 1568, 1569, 1570, 1571, 1572, 1573, 1584, 1585, 1586, 1575, 1576, 1587, 1588, 1589, 1590, 1591, 1592, 1593, 1594, 1595, 1596] (by decide +kernel) (by decide +kernel)) (goodIn_sub (fun _ h => List.mem_append_left _ (List.mem_append_left _ (List.mem_append_left _ (List.mem_append_left _ (List.mem_append_left _ (List.mem_append_left _ (List.mem_append_right _ h))))))) (by decide +kernel))) (goodIn_sub (fun _ h => List.mem_append_left _ (List.mem_append_left _ (List.mem_append_left _ (List.mem_append_right _ h)))) (by decide +kernel))
set_option maxRecDepth 20000 in
theorem gL_law_L_removeTrack : GoodIn wsL_law (va_wsS RL 207 yL_removeTrack wsL_removeTrack) := goodIn_app (goodIn_of _ (by decide +kernel)) ggL_law_L_removeTrack
set_option maxRecDepth 20000 in
theorem ggL_law_X10_removeTrack : GoodIn wsL_law wsX10_removeTrack := goodIn_ca (goodIn_r _ [251, 188, 189, 190, 5, 191, 192, 193, 194, 195, 94, 252, 253, 254, 255, 200, 256, 257, 258, 259, 260, 261, 262, 263, 264, 265, 266, 267, 268, 269, 270, 271, 272, 273, 274, 275, 211, 212, 213, 214, 215, 216, 1549, 1550, 1551, 1552, 1553, 1554, 1555, 1556, 1557, 1558, 1559, 1560, 1561, 1562, 1563, 1564, 1565, 1566] (by decide +kernel) (by decide +kernel)) (goodIn_sub (fun _ h => List.mem_append_left _ (List.mem_append_left _ (List.mem_append_left _ (List.mem_append_left _ (List.mem_append_left _ (List.mem_append_left _ (List.mem_append_right _ h))))))) (by decide +kernel))
set_option maxRecDepth 20000 in
theorem gL_law_X10_removeTrack : GoodIn wsL_law (wsV RL 209 RX10 yX10_removeTrack wsX10_removeTrack) := goodIn_app (goodIn_of _ (by decide +kernel)) ggL_law_X10_removeTrack
set_option maxRecDepth 20000 in
theorem ggL_law_L_addPrint : GoodIn wsL_law wsL_addPrint := goodIn_ca (goodIn_ca (goodIn_ca (goodIn_ca (goodIn_r _ [278, 224, 103, 104, 279, 280, 281, 2, 282, 109, 110, 17, 25, 229, 230, 231, 232, 233, 234, 235, 236, 237, 16, 238, 45, 125, 182, 283, 284, 285, 286, 287, 288, 289, 290, 291, 292, 293, 294, 295, 296, 297, 298, 299, 300, 301, 118, 119, 120, 302, 303, 304, 305, 306, 307, 308, 309, 310, 49, 243, 311, 126, 127, 128, 129, 12, 13, 130, 131, 132, 312, 313, 314, 315, 316, 244, 245, 246, 51, 247, 168, 170, 317, 318, 319, 320, 152, 321, 322, 323, 324, 325, 326, 327, 328, 329, 133, 134, 135, 136, 137, 138, 38, 139, 140, 141, 24, 142, 68, 143, 144, 145, 146, 147, 148, 149, 150, 151, 153, 154, 155, 156, 157, 158, 159, 47, 160, 161, 162, 163, 164, 165, 166, 167, 169, 171, 172, 173, 174, 175, 176, 177, 330, 331, 332, 333, 334, 335, 336, 337, 338, 339, 340, 341, 342, 1539, 1540, 1541, 1542, 1543, 1544, 1545, 1546, 1547, 1548, 1567, 1568, 1569, 1570, 1571, 1572, 1573, 1584, 1585, 1586, 1604, 1605, 1606, 1587, 1588, 1589, 1590, 1591, 1592, 1593, 1594, 1595, 1596, 1575, 1576] (by decide +kernel) (by decide +kernel)) (goodIn_sub (fun _ h => List.mem_append_left _ (List.mem_append_left _ (List.mem_append_left _ (List.mem_append_left _ (List.mem_append_left _ (List.mem_append_left _ (List.mem_append_right _ h))))))) (by decide +kernel))) (goodIn_sub (fun _ h => List.mem_append_left _ (List.mem_append_left _ (List.mem_append_left _ (List.mem_append_left _ (List.mem_append_left _ (List.mem_append_right _ h)))))) (by decide +kernel))) (goodIn_sub (fun _ h => List.mem_append_left _ (List.mem_append_left _ (List.mem_append_left _ (List.mem_append_right _ h)))) (by decide +kernel))) (goodIn_sub (fun _ h => List.mem_append_left _ (List.mem_append_left _ (List.mem_append_left _ (List.mem_append_left _ (List.mem_append_right _ h))))) (by decide +kernel))
set_option maxRecDepth 20000 in
theorem gL_law_L_addPrint : GoodIn wsL_law (va_wsS RL 210 yL_addPrint wsL_addPrint) := goodIn_app (goodIn_of _ (by decide +kernel)) ggL_law_L_addPrint
set_option maxRecDepth 20000 in
theorem ggL_law_X10_addPrint : GoodIn wsL_law wsX10_addPrint := goodIn_ca (goodIn_r _ [346, 188, 189, 190, 5, 191, 192, 193, 194, 195, 94, 347, 348, 349, 350, 200, 256, 257, 258, 259, 351, 352, 353, 201, 202, 203, 354, 355, 356, 357, 264, 265, 266, 267, 358, 359, 360, 361, 204, 205, 206, 207, 208, 209, 210, 362, 363, 364, 365, 366, 367, 368, 369, 272, 273, 274, 275, 211, 212, 213, 214, 215, 216, 1549, 1550, 1551, 1552, 1553, 1554, 1555, 1556, 1557, 1558, 1559, 1560, 1561, 1562, 1563, 1564, 1565, 1566] (by decide +kernel) (by decide +kernel)) (goodIn_sub (fun _ h => List.mem_append_left _ (List.mem_append_left _ (List.mem_append_left _ (List.mem_append_left _ (List.mem_append_left _ (List.mem_append_left _ (List.mem_append_right _ h))))))) (by decide +kernel))
set_option maxRecDepth 20000 in
theorem gL_law_X10_addPrint : GoodIn wsL_law (wsV RL 213 RX10 yX10_addPrint wsX10_addPrint) := goodIn_app (goodIn_of _ (by decide +kernel)) ggL_law_X10_addPrint
set_option maxRecDepth 20000 in
theorem ggL_law_L_removePrint : GoodIn wsL_law wsL_removePrint := goodIn_ca (goodIn_ca (goodIn_r _ [372, 224, 373, 374, 375, 2, 376, 25, 17, 377, 378, 379, 380, 381, 233, 234, 382, 383, 384, 16, 385, 49, 243, 302, 139, 140, 141, 24, 142, 68, 143, 144, 145, 146, 147, 148, 149, 150, 151, 45, 152, 153, 154, 155, 156, 157, 158, 159, 47, 160, 161, 162, 163, 164, 165, 166, 51, 167, 168, 169, 170, 171, 172, 173, 174, 175, 176, 177, 386, 387, 388, 389, 1539, 1540, 1541, 1542, 1543, 1544, 1545, 1546, 1547, 1548, 1587, 1588, 1589, 1590, 1591, 1592, 1593, 1594, 1595, 1596, 1567, 1568, 1569, 1570, 1571, 1572, 1573, 1575, 1576, 1584, 1585, 1586] (by decide +kernel) (by decide +kernel)) (goodIn_sub (fun _ h => List.mem_append_left _ (List.mem_append_left _ (List.mem_append_left _ (List.mem_append_left _ (List.mem_append_left _ (List.mem_append_left _ (List.mem_append_right _ h))))))) (by decide +kernel))) (goodIn_sub (fun _ h => List.mem_append_left _ (List.mem_append_left _ (List.mem_append_left _ (List.mem_append_right _ h)))) (by decide +kernel))
set_option maxRecDepth 20000 in
theorem gL_law_L_removePrint : GoodIn wsL_law (va_wsS RL 214 yL_removePrint wsL_removePrint) := goodIn_app (goodIn_of _ (by decide +kernel)) ggL_law_L_removePrint
set_option maxRecDepth 20000 in
theorem ggL_law_X10_removePrint : GoodIn wsL_law wsX10_removePrint := goodIn_ca (goodIn_r _ [393, 188, 189, 190, 5, 191, 192, 193, 194, 195, 94, 394, 395, 396, 397, 200, 398, 399, 400, 401, 264, 265, 266, 267, 268, 269, 270, 271, 272, 273, 274, 275, 211, 212, 213, 214, 215, 216, 1549, 1550, 1551, 1552, 1553, 1554, 1555, 1556, 1557, 1558, 1559, 1560, 1561, 1562, 1563, 1564, 1565, 1566] (by decide +kernel) (by decide +kernel)) (goodIn_sub (fun _ h => List.mem_append_left _ (List.mem_append_left _ (List.mem_append_left _ (List.mem_append_left _ (List.mem_append_left _ (List.mem_append_left _ (List.mem_append_right _ h))))))) (by decide +kernel))
set_option maxRecDepth 20000 in
theorem gL_law_X10_removePrint : GoodIn wsL_law (wsV RL 216 RX10 yX10_removePrint wsX10_removePrint) := goodIn_app (goodIn_of _ (by decide +kernel)) ggL_law_X10_removePrint
set_option maxRecDepth 20000 in
theorem ggL_law_L_correctHeel : GoodIn wsL_law wsL_correctHeel := goodIn_ca (goodIn_ca (goodIn_ca (goodIn_r _ [404, 224, 104, 405, 406, 407, 2, 408, 17, 25, 378, 379, 380, 381, 233, 234, 382, 383, 384, 16, 385, 49, 243, 302, 283, 284, 285, 286, 287, 288, 289, 290, 291, 409, 410, 411, 412, 118, 119, 120, 413, 414, 415, 51, 416, 172, 417, 418, 146, 419, 173, 126, 127, 128, 129, 12, 13, 130, 131, 132, 317, 318, 319, 320, 152, 321, 322, 323, 324, 325, 326, 327, 328, 311, 329, 133, 134, 135, 136, 137, 138, 38, 139, 140, 141, 24, 142, 68, 143, 144, 145, 147, 148, 149, 150, 151, 45, 153, 154, 155, 156, 157, 158, 159, 47, 160, 161, 162, 163, 164, 165, 166, 167, 168, 169, 170, 171, 174, 175, 176, 177, 420, 421, 422, 423, 1539, 1540, 1541, 1542, 1543, 1544, 1545, 1546, 1547, 1548, 1567, 1568, 1569, 1570, 1571, 1572, 1573, 1587, 1588, 1589, 1590, 1591, 1592, 1593, 1594, 1595, 1596, 1604, 1605, 1606, 1575, 1576, 1584, 1585, 1586] (by decide +kernel) (by decide +kernel)) (goodIn_sub (fun _ h => List.mem_append_left _ (List.mem_append_left _ (List.mem_append_left _ (List.mem_append_left _ (List.mem_append_left _ (List.mem_append_left _ (List.mem_append_right _ h))))))) (by decide +kernel))) (goodIn_sub (fun _ h => List.mem_append_left _ (List.mem_append_left _ (List.mem_append_left _ (List.mem_append_right _ h)))) (by decide +kernel))) (goodIn_sub (fun _ h => List.mem_append_left _ (List.mem_append_left _ (List.mem_append_left _ (List.mem_append_left _ (List.mem_append_right _ h))))) (by decide +kernel))
set_option maxRecDepth 20000 in
theorem gL_law_L_correctHeel : GoodIn wsL_law (va_wsS RL 217 yL_correctHeel wsL_correctHeel) := goodIn_app (goodIn_of _ (by decide +kernel)) ggL_law_L_correctHeel
set_option maxRecDepth 20000 in
theorem ggL_law_X10_correctHeel : GoodIn wsL_law wsX10_correctHeel := goodIn_ca (goodIn_r _ [427, 188, 189, 190, 5, 191, 192, 193, 194, 195, 94, 428, 429, 430, 431, 200, 398, 399, 400, 401, 264, 265, 266, 267, 351, 352, 353, 201, 202, 203, 432, 433, 434, 435, 436, 437, 438, 358, 359, 360, 361, 204, 205, 206, 207, 208, 209, 210, 362, 363, 364, 365, 272, 273, 274, 275, 211, 212, 213, 214, 215, 216, 1549, 1550, 1551, 1552, 1553, 1554, 1555, 1556, 1557, 1558, 1559, 1560, 1561, 1562, 1563, 1564, 1565, 1566] (by decide +kernel) (by decide +kernel)) (goodIn_sub (fun _ h => List.mem_append_left _ (List.mem_append_left _ (List.mem_append_left _ (List.mem_append_left _ (List.mem_append_left _ (List.mem_append_left _ (List.mem_append_right _ h))))))) (by decide +kernel))
set_option maxRecDepth 20000 in
theorem gL_law_X10_correctHeel : GoodIn wsL_law (wsV RL 220 RX10 yX10_correctHeel wsX10_correctHeel) := goodIn_app (goodIn_of _ (by decide +kernel)) ggL_law_X10_correctHeel
set_option maxRecDepth 20000 in
theorem ggL_law_L_swapFoot : GoodIn wsL_law wsL_swapFoot := goodIn_ca (goodIn_ca (goodIn_r _ [441, 224, 442, 443, 444, 2, 445, 25, 17, 378, 379, 380, 381, 233, 234, 382, 383, 384, 16, 385, 49, 243, 302, 139, 140, 141, 24, 142, 68, 143, 144, 145, 146, 147, 148, 149, 150, 151, 45, 152, 153, 154, 155, 156, 157, 158, 159, 47, 160, 161, 162, 163, 164, 165, 166, 51, 167, 168, 169, 170, 171, 172, 173, 174, 175, 176, 177, 446, 447, 448, 449, 1539, 1540, 1541, 1542, 1543, 1544, 1545, 1546, 1547, 1548, 1567, 1568, 1569, 1570, 1571, 1572, 1573, 1587, 1588, 1589, 1590, 1591, 1592, 1593, 1594, 1595, 1596, 1575, 1576, 1584, 1585, 1586] (by decide +kernel) (by decide +kernel)) (goodIn_sub (fun _ h => List.mem_append_left _ (List.mem_append_left _ (List.mem_append_left _ (List.mem_append_left _ (List.mem_append_left _ (List.mem_append_left _ (List.mem_append_right _ h))))))) (by decide +kernel))) (goodIn_sub (fun _ h => List.mem_append_left _ (List.mem_append_left _ (List.mem_append_left _ (List.mem_append_right _ h)))) (by decide +kernel))
set_option maxRecDepth 20000 in
theorem gL_law_L_swapFoot : GoodIn wsL_law (va_wsS RL 221 yL_swapFoot wsL_swapFoot) := goodIn_app (goodIn_of _ (by decide +kernel)) ggL_law_L_swapFoot
set_option maxRecDepth 20000 in
theorem ggL_law_X10_swapFoot : GoodIn wsL_law wsX10_swapFoot := goodIn_ca (goodIn_r _ [453, 188, 189, 190, 5, 191, 192, 193, 194, 195, 94, 454, 455, 456, 457, 200, 398, 399, 400, 401, 264, 265, 266, 267, 272, 273, 274, 275, 211, 212, 213, 214, 215, 216, 1549, 1550, 1551, 1552, 1553, 1554, 1555, 1556, 1557, 1558, 1559, 1560, 1561, 1562, 1563, 1564, 1565, 1566] (by decide +kernel) (by decide +kernel)) (goodIn_sub (fun _ h => List.mem_append_left _ (List.mem_append_left _ (List.mem_append_left _ (List.mem_append_left _ (List.mem_append_left _ (List.mem_append_left _ (List.mem_append_right _ h))))))) (by decide +kernel))
set_option maxRecDepth 20000 in
theorem gL_law_X10_swapFoot : GoodIn wsL_law (wsV RL 223 RX10 yX10_swapFoot wsX10_swapFoot) := goodIn_app (goodIn_of _ (by decide +kernel)) ggL_law_X10_swapFoot
set_option maxRecDepth 20000 in
theorem ggL_law_L_doubtToes : GoodIn wsL_law wsL_doubtToes := goodIn_ca (goodIn_ca (goodIn_ca (goodIn_r _ [460, 224, 104, 461, 462, 463, 2, 464, 17, 25, 378, 379, 380, 381, 233, 234, 382, 383, 384, 16, 385, 49, 243, 302, 465, 466, 467, 468, 337, 118, 119, 120, 126, 127, 128, 129, 12, 13, 130, 131, 132, 133, 134, 135, 136, 137, 138, 38, 139, 140, 141, 24, 142, 68, 143, 144, 145, 146, 147, 148, 149, 150, 151, 45, 152, 153, 154, 155, 156, 157, 158, 159, 47, 160, 161, 162, 163, 164, 165, 166, 51, 167, 168, 169, 170, 171, 172, 173, 174, 175, 176, 177, 469, 470, 471, 472, 1539, 1540, 1541, 1542, 1543, 1544, 1545, 1546, 1547, 1548, 1567, 1568, 1569, 1570, 1571, 1572, 1573, 1587, 1588, 1589, 1590, 1591, 1592, 1593, 1594, 1595, 1596, 1604, 1605, 1606, 1575, 1576, 1584, 1585, 1586] (by decide +kernel) (by decide +kernel)) (goodIn_sub (fun _ h => List.mem_append_left _ (List.mem_append_left _ (List.mem_append_left _ (List.mem_append_left _ (List.mem_append_left _ (List.mem_append_left _ (List.mem_append_right _ h))))))) (by decide +kernel))) (goodIn_sub (fun _ h => List.mem_append_left _ (List.mem_append_left _ (List.mem_append_left _ (List.mem_append_right _ h)))) (by decide +kernel))) (goodIn_sub (fun _ h => List.mem_append_left _ (List.mem_append_left _ (List.mem_append_left _ (List.mem_append_left _ (List.mem_append_right _ h))))) (by decide +kernel))
set_option maxRecDepth 20000 in
theorem gL_law_L_doubtToes : GoodIn wsL_law (va_wsS RL 224 yL_doubtToes wsL_doubtToes) := goodIn_app (goodIn_of _ (by decide +kernel)) ggL_law_L_doubtToes
set_option maxRecDepth 20000 in
theorem ggL_law_X10_doubtToes : GoodIn wsL_law wsX10_doubtToes := goodIn_ca (goodIn_r _ [476, 188, 189, 190, 5, 191, 192, 193, 194, 195, 94, 477, 478, 479, 480, 200, 398, 399, 400, 401, 264, 265, 266, 267, 204, 205, 206, 207, 208, 209, 210, 272, 273, 274, 275, 211, 212, 213, 214, 215, 216, 1549, 1550, 1551, 1552, 1553, 1554, 1555, 1556, 1557, 1558, 1559, 1560, 1561, 1562, 1563, 1564, 1565, 1566] (by decide +kernel) (by decide +kernel)) (goodIn_sub (fun _ h => List.mem_append_left _ (List.mem_append_left _ (List.mem_append_left _ (List.mem_append_left _ (List.mem_append_left _ (List.mem_append_left _ (List.mem_append_right _ h))))))) (by decide +kernel))
set_option maxRecDepth 20000 in
theorem gL_law_X10_doubtToes : GoodIn wsL_law (wsV RL 226 RX10 yX10_doubtToes wsX10_doubtToes) := goodIn_app (goodIn_of _ (by decide +kernel)) ggL_law_X10_doubtToes
set_option maxRecDepth 20000 in
theorem ggL_law_L_confirmToes : GoodIn wsL_law wsL_confirmToes := goodIn_ca (goodIn_ca (goodIn_ca (goodIn_r _ [483, 224, 104, 484, 485, 486, 2, 487, 17, 25, 378, 379, 380, 381, 233, 234, 382, 383, 384, 16, 385, 49, 243, 302, 488, 489, 490, 491, 337, 118, 119, 120, 126, 127, 128, 129, 12, 13, 130, 131, 132, 133, 134, 135, 136, 137, 138, 38, 139, 140, 141, 24, 142, 68, 143, 144, 145, 146, 147, 148, 149, 150, 151, 45, 152, 153, 154, 155, 156, 157, 158, 159, 47, 160, 161, 162, 163, 164, 165, 166, 51, 167, 168, 169, 170, 171, 172, 173, 174, 175, 176, 177, 492, 493, 494, 495, 1539, 1540, 1541, 1542, 1543, 1544, 1545, 1546, 1547, 1548, 1567, 1568, 1569, 1570, 1571, 1572, 1573, 1587, 1588, 1589, 1590, 1591, 1592, 1593, 1594, 1595, 1596, 1604, 1605, 1606, 1575, 1576, 1584, 1585, 1586] (by decide +kernel) (by decide +kernel)) (goodIn_sub (fun _ h => List.mem_append_left _ (List.mem_append_left _ (List.mem_append_left _ (List.mem_append_left _ (List.mem_append_left _ (List.mem_append_left _ (List.mem_append_right _ h))))))) (by decide +kernel))) (goodIn_sub (fun _ h => List.mem_append_left _ (List.mem_append_left _ (List.mem_append_left _ (List.mem_append_right _ h)))) (by decide +kernel))) (goodIn_sub (fun _ h => List.mem_append_left _ (List.mem_append_left _ (List.mem_append_left _ (List.mem_append_left _ (List.mem_append_right _ h))))) (by decide +kernel))
set_option maxRecDepth 20000 in
theorem gL_law_L_confirmToes : GoodIn wsL_law (va_wsS RL 227 yL_confirmToes wsL_confirmToes) := goodIn_app (goodIn_of _ (by decide +kernel)) ggL_law_L_confirmToes
set_option maxRecDepth 20000 in
theorem ggL_law_X10_confirmToes : GoodIn wsL_law wsX10_confirmToes := goodIn_ca (goodIn_r _ [499, 188, 189, 190, 5, 191, 192, 193, 194, 195, 94, 500, 501, 502, 503, 200, 398, 399, 400, 401, 264, 265, 266, 267, 204, 205, 206, 207, 208, 209, 210, 272, 273, 274, 275, 211, 212, 213, 214, 215, 216, 1549, 1550, 1551, 1552, 1553, 1554, 1555, 1556, 1557, 1558, 1559, 1560, 1561, 1562, 1563, 1564, 1565, 1566] (by decide +kernel) (by decide +kernel)) (goodIn_sub (fun _ h => List.mem_append_left _ (List.mem_append_left _ (List.mem_append_left _ (List.mem_append_left _ (List.mem_append_left _ (List.mem_append_left _ (List.mem_append_right _ h))))))) (by decide +kernel))
set_option maxRecDepth 20000 in
theorem gL_law_X10_confirmToes : GoodIn wsL_law (wsV RL 229 RX10 yX10_confirmToes wsX10_confirmToes) := goodIn_app (goodIn_of _ (by decide +kernel)) ggL_law_X10_confirmToes
set_option maxRecDepth 20000 in
theorem ggL_law_L_setTide : GoodIn wsL_law wsL_setTide := goodIn_ca (goodIn_ca (goodIn_ca (goodIn_r _ [506, 103, 104, 507, 508, 509, 2, 510, 17, 25, 511, 512, 513, 109, 110, 514, 515, 516, 517, 518, 519, 16, 520, 152, 118, 119, 120, 126, 127, 128, 129, 12, 13, 130, 131, 132, 133, 134, 135, 136, 137, 138, 38, 139, 140, 141, 24, 142, 68, 143, 144, 145, 146, 147, 148, 149, 150, 151, 45, 49, 153, 154, 155, 156, 157, 158, 159, 47, 160, 161, 162, 163, 164, 165, 166, 51, 167, 168, 169, 170, 171, 172, 173, 174, 175, 176, 177, 521, 522, 523, 524, 243, 311, 321, 322, 323, 324, 1539, 1540, 1541, 1542, 1543, 1544, 1545, 1546, 1547, 1548, 1567, 1568, 1569, 1570, 1571, 1572, 1573, 1604, 1605, 1606, 1575, 1576, 1584, 1585, 1586, 1587, 1588, 1589, 1590, 1591, 1592, 1593, 1594, 1595, 1596] (by decide +kernel) (by decide +kernel)) (goodIn_sub (fun _ h => List.mem_append_left _ (List.mem_append_left _ (List.mem_append_left _ (List.mem_append_left _ (List.mem_append_left _ (List.mem_append_left _ (List.mem_append_right _ h))))))) (by decide +kernel))) (goodIn_sub (fun _ h => List.mem_append_left _ (List.mem_append_left _ (List.mem_append_left _ (List.mem_append_left _ (List.mem_append_left _ (List.mem_append_right _ h)))))) (by decide +kernel))) (goodIn_sub (fun _ h => List.mem_append_left _ (List.mem_append_left _ (List.mem_append_left _ (List.mem_append_left _ (List.mem_append_right _ h))))) (by decide +kernel))
set_option maxRecDepth 20000 in
theorem gL_law_L_setTide : GoodIn wsL_law (va_wsS RL 230 yL_setTide wsL_setTide) := goodIn_app (goodIn_of _ (by decide +kernel)) ggL_law_L_setTide
set_option maxRecDepth 20000 in
theorem ggL_law_X10_setTide : GoodIn wsL_law wsX10_setTide := goodIn_ca (goodIn_r _ [528, 188, 189, 190, 5, 191, 192, 193, 194, 195, 94, 529, 530, 531, 532, 200, 201, 202, 203, 204, 205, 206, 207, 208, 209, 210, 533, 534, 535, 536, 264, 265, 266, 267, 268, 269, 270, 271, 272, 273, 274, 275, 211, 212, 213, 214, 215, 216, 1549, 1550, 1551, 1552, 1553, 1554, 1555, 1556, 1557, 1558, 1559, 1560, 1561, 1562, 1563, 1564, 1565, 1566] (by decide +kernel) (by decide +kernel)) (goodIn_sub (fun _ h => List.mem_append_left _ (List.mem_append_left _ (List.mem_append_left _ (List.mem_append_left _ (List.mem_append_left _ (List.mem_append_left _ (List.mem_append_right _ h))))))) (by decide +kernel))
set_option maxRecDepth 20000 in
theorem gL_law_X10_setTide : GoodIn wsL_law (wsV RL 232 RX10 yX10_setTide wsX10_setTide) := goodIn_app (goodIn_of _ (by decide +kernel)) ggL_law_X10_setTide
set_option maxRecDepth 20000 in
theorem ggL_law_L_trackOf : GoodIn wsL_law wsL_trackOf := goodIn_ca (goodIn_ca (goodIn_r _ [539, 224, 540, 541, 542, 2, 543, 377, 378, 379, 380, 381, 233, 234, 17, 382, 383, 384, 16, 385, 49, 243, 302, 1587, 1588, 1589, 1590, 1591, 1592, 1593, 1594, 1595, 1596, 1539, 1540, 1541, 1542, 1543, 1544, 1545, 1546, 1547, 1548, 1567, 1568, 1569, 1570, 1571, 1572, 1573] (by decide +kernel) (by decide +kernel)) (goodIn_sub (fun _ h => List.mem_append_left _ (List.mem_append_left _ (List.mem_append_left _ (List.mem_append_left _ (List.mem_append_left _ (List.mem_append_left _ (List.mem_append_right _ h))))))) (by decide +kernel))) (goodIn_sub (fun _ h => List.mem_append_left _ (List.mem_append_left _ (List.mem_append_left _ (List.mem_append_right _ h)))) (by decide +kernel))
set_option maxRecDepth 20000 in
theorem gL_law_L_trackOf : GoodIn wsL_law (va_wsS RL 233 yL_trackOf wsL_trackOf) := goodIn_app (goodIn_of _ (by decide +kernel)) ggL_law_L_trackOf
set_option maxRecDepth 20000 in
theorem ggL_law_X10_trackOf : GoodIn wsL_law wsX10_trackOf := goodIn_ca (goodIn_r _ [547, 548, 549, 550, 5, 551, 398, 399, 400, 401, 94, 264, 265, 266, 267, 552, 553, 554, 555, 215, 1549, 1550, 1551, 1552, 1553, 1554, 1555, 1556, 1557, 1558, 1559, 1560, 1561, 1562, 1563, 1564, 1565, 1566] (by decide +kernel) (by decide +kernel)) (goodIn_sub (fun _ h => List.mem_append_left _ (List.mem_append_left _ (List.mem_append_left _ (List.mem_append_left _ (List.mem_append_left _ (List.mem_append_left _ (List.mem_append_right _ h))))))) (by decide +kernel))
set_option maxRecDepth 20000 in
theorem gL_law_X10_trackOf : GoodIn wsL_law (wsV RL 235 RX10 yX10_trackOf wsX10_trackOf) := goodIn_app (goodIn_of _ (by decide +kernel)) ggL_law_X10_trackOf
set_option maxRecDepth 20000 in
theorem ggL_law_L_timeOf : GoodIn wsL_law wsL_timeOf := goodIn_ca (goodIn_ca (goodIn_r _ [558, 224, 559, 560, 561, 2, 562, 563, 378, 379, 380, 381, 233, 234, 17, 382, 383, 384, 16, 385, 49, 243, 302, 1587, 1588, 1589, 1590, 1591, 1592, 1593, 1594, 1595, 1596, 1539, 1540, 1541, 1542, 1543, 1544, 1545, 1546, 1547, 1548, 1567, 1568, 1569, 1570, 1571, 1572, 1573] (by decide +kernel) (by decide +kernel)) (goodIn_sub (fun _ h => List.mem_append_left _ (List.mem_append_left _ (List.mem_append_left _ (List.mem_append_left _ (List.mem_append_left _ (List.mem_append_left _ (List.mem_append_right _ h))))))) (by decide +kernel))) (goodIn_sub (fun _ h => List.mem_append_left _ (List.mem_append_left _ (List.mem_append_left _ (List.mem_append_right _ h)))) (by decide +kernel))
set_option maxRecDepth 20000 in
theorem gL_law_L_timeOf : GoodIn wsL_law (va_wsS RL 236 yL_timeOf wsL_timeOf) := goodIn_app (goodIn_of _ (by decide +kernel)) ggL_law_L_timeOf
set_option maxRecDepth 20000 in
theorem ggL_law_X10_timeOf : GoodIn wsL_law wsX10_timeOf := goodIn_ca (goodIn_r _ [567, 548, 549, 550, 5, 551, 398, 399, 400, 401, 94, 264, 265, 266, 267, 552, 553, 554, 555, 215, 1549, 1550, 1551, 1552, 1553, 1554, 1555, 1556, 1557, 1558, 1559, 1560, 1561, 1562, 1563, 1564, 1565, 1566] (by decide +kernel) (by decide +kernel)) (goodIn_sub (fun _ h => List.mem_append_left _ (List.mem_append_left _ (List.mem_append_left _ (List.mem_append_left _ (List.mem_append_left _ (List.mem_append_left _ (List.mem_append_right _ h))))))) (by decide +kernel))
set_option maxRecDepth 20000 in
theorem gL_law_X10_timeOf : GoodIn wsL_law (wsV RL 238 RX10 yX10_timeOf wsX10_timeOf) := goodIn_app (goodIn_of _ (by decide +kernel)) ggL_law_X10_timeOf
set_option maxRecDepth 20000 in
theorem ggL_law_L_rowOf : GoodIn wsL_law wsL_rowOf := goodIn_ca (goodIn_ca (goodIn_r _ [570, 224, 571, 572, 573, 2, 574, 575, 378, 379, 380, 381, 233, 234, 17, 382, 383, 384, 16, 385, 49, 243, 302, 1587, 1588, 1589, 1590, 1591, 1592, 1593, 1594, 1595, 1596, 1539, 1540, 1541, 1542, 1543, 1544, 1545, 1546, 1547, 1548, 1567, 1568, 1569, 1570, 1571, 1572, 1573] (by decide +kernel) (by decide +kernel)) (goodIn_sub (fun _ h => List.mem_append_left _ (List.mem_append_left _ (List.mem_append_left _ (List.mem_append_left _ (List.mem_append_left _ (List.mem_append_left _ (List.mem_append_right _ h))))))) (by decide +kernel))) (goodIn_sub (fun _ h => List.mem_append_left _ (List.mem_append_left _ (List.mem_append_left _ (List.mem_append_right _ h)))) (by decide +kernel))
set_option maxRecDepth 20000 in
theorem gL_law_L_rowOf : GoodIn wsL_law (va_wsS RL 239 yL_rowOf wsL_rowOf) := goodIn_app (goodIn_of _ (by decide +kernel)) ggL_law_L_rowOf
set_option maxRecDepth 20000 in
theorem ggL_law_X10_rowOf : GoodIn wsL_law wsX10_rowOf := goodIn_ca (goodIn_r _ [579, 548, 549, 550, 5, 551, 398, 399, 400, 401, 94, 264, 265, 266, 267, 552, 553, 554, 555, 215, 1549, 1550, 1551, 1552, 1553, 1554, 1555, 1556, 1557, 1558, 1559, 1560, 1561, 1562, 1563, 1564, 1565, 1566] (by decide +kernel) (by decide +kernel)) (goodIn_sub (fun _ h => List.mem_append_left _ (List.mem_append_left _ (List.mem_append_left _ (List.mem_append_left _ (List.mem_append_left _ (List.mem_append_left _ (List.mem_append_right _ h))))))) (by decide +kernel))
set_option maxRecDepth 20000 in
theorem gL_law_X10_rowOf : GoodIn wsL_law (wsV RL 241 RX10 yX10_rowOf wsX10_rowOf) := goodIn_app (goodIn_of _ (by decide +kernel)) ggL_law_X10_rowOf
set_option maxRecDepth 20000 in
theorem ggL_law_L_columnOf : GoodIn wsL_law wsL_columnOf := goodIn_ca (goodIn_ca (goodIn_r _ [582, 224, 583, 584, 585, 2, 586, 587, 378, 379, 380, 381, 233, 234, 17, 382, 383, 384, 16, 385, 49, 243, 302, 1587, 1588, 1589, 1590, 1591, 1592, 1593, 1594, 1595, 1596, 1539, 1540, 1541, 1542, 1543, 1544, 1545, 1546, 1547, 1548, 1567, 1568, 1569, 1570, 1571, 1572, 1573] (by decide +kernel) (by decide +kernel)) (goodIn_sub (fun _ h => List.mem_append_left _ (List.mem_append_left _ (List.mem_append_left _ (List.mem_append_left _ (List.mem_append_left _ (List.mem_append_left _ (List.mem_append_right _ h))))))) (by decide +kernel))) (goodIn_sub (fun _ h => List.mem_append_left _ (List.mem_append_left _ (List.mem_append_left _ (List.mem_append_right _ h)))) (by decide +kernel))
set_option maxRecDepth 20000 in
theorem gL_law_L_columnOf : GoodIn wsL_law (va_wsS RL 242 yL_columnOf wsL_columnOf) := goodIn_app (goodIn_of _ (by decide +kernel)) ggL_law_L_columnOf
set_option maxRecDepth 20000 in
theorem ggL_law_X10_columnOf : GoodIn wsL_law wsX10_columnOf := goodIn_ca (goodIn_r _ [591, 548, 549, 550, 5, 551, 398, 399, 400, 401, 94, 264, 265, 266, 267, 552, 553, 554, 555, 215, 1549, 1550, 1551, 1552, 1553, 1554, 1555, 1556, 1557, 1558, 1559, 1560, 1561, 1562, 1563, 1564, 1565, 1566] (by decide +kernel) (by decide +kernel)) (goodIn_sub (fun _ h => List.mem_append_left _ (List.mem_append_left _ (List.mem_append_left _ (List.mem_append_left _ (List.mem_append_left _ (List.mem_append_left _ (List.mem_append_right _ h))))))) (by decide +kernel))
set_option maxRecDepth 20000 in
theorem gL_law_X10_columnOf : GoodIn wsL_law (wsV RL 244 RX10 yX10_columnOf wsX10_columnOf) := goodIn_app (goodIn_of _ (by decide +kernel)) ggL_law_X10_columnOf
set_option maxRecDepth 20000 in
theorem ggL_law_L_isLeft : GoodIn wsL_law wsL_isLeft := goodIn_ca (goodIn_ca (goodIn_r _ [594, 224, 595, 596, 597, 2, 598, 599, 378, 379, 380, 381, 233, 234, 17, 382, 383, 384, 16, 385, 49, 243, 302, 1587, 1588, 1589, 1590, 1591, 1592, 1593, 1594, 1595, 1596, 1539, 1540, 1541, 1542, 1543, 1544, 1545, 1546, 1547, 1548, 1567, 1568, 1569, 1570, 1571, 1572, 1573] (by decide +kernel) (by decide +kernel)) (goodIn_sub (fun _ h => List.mem_append_left _ (List.mem_append_left _ (List.mem_append_left _ (List.mem_append_left _ (List.mem_append_left _ (List.mem_append_left _ (List.mem_append_right _ h))))))) (by decide +kernel))) (goodIn_sub (fun _ h => List.mem_append_left _ (List.mem_append_left _ (List.mem_append_left _ (List.mem_append_right _ h)))) (by decide +kernel))
set_option maxRecDepth 20000 in
theorem gL_law_L_isLeft : GoodIn wsL_law (va_wsS RL 245 yL_isLeft wsL_isLeft) := goodIn_app (goodIn_of _ (by decide +kernel)) ggL_law_L_isLeft
set_option maxRecDepth 20000 in
theorem ggL_law_X10_isLeft : GoodIn wsL_law wsX10_isLeft := goodIn_ca (goodIn_r _ [603, 548, 549, 550, 5, 551, 398, 399, 400, 401, 94, 264, 265, 266, 267, 552, 553, 554, 555, 215, 1549, 1550, 1551, 1552, 1553, 1554, 1555, 1556, 1557, 1558, 1559, 1560, 1561, 1562, 1563, 1564, 1565, 1566] (by decide +kernel) (by decide +kernel)) (goodIn_sub (fun _ h => List.mem_append_left _ (List.mem_append_left _ (List.mem_append_left _ (List.mem_append_left _ (List.mem_append_left _ (List.mem_append_left _ (List.mem_append_right _ h))))))) (by decide +kernel))
set_option maxRecDepth 20000 in
theorem gL_law_X10_isLeft : GoodIn wsL_law (wsV RL 247 RX10 yX10_isLeft wsX10_isLeft) := goodIn_app (goodIn_of _ (by decide +kernel)) ggL_law_X10_isLeft
set_option maxRecDepth 20000 in
theorem ggL_law_L_depthOf : GoodIn wsL_law wsL_depthOf := goodIn_ca (goodIn_ca (goodIn_r _ [606, 224, 607, 608, 609, 2, 610, 611, 378, 379, 380, 381, 233, 234, 17, 382, 383, 384, 16, 385, 49, 243, 302, 1587, 1588, 1589, 1590, 1591, 1592, 1593, 1594, 1595, 1596, 1539, 1540, 1541, 1542, 1543, 1544, 1545, 1546, 1547, 1548, 1567, 1568, 1569, 1570, 1571, 1572, 1573] (by decide +kernel) (by decide +kernel)) (goodIn_sub (fun _ h => List.mem_append_left _ (List.mem_append_left _ (List.mem_append_left _ (List.mem_append_left _ (List.mem_append_left _ (List.mem_append_left _ (List.mem_append_right _ h))))))) (by decide +kernel))) (goodIn_sub (fun _ h => List.mem_append_left _ (List.mem_append_left _ (List.mem_append_left _ (List.mem_append_right _ h)))) (by decide +kernel))
set_option maxRecDepth 20000 in
theorem gL_law_L_depthOf : GoodIn wsL_law (va_wsS RL 248 yL_depthOf wsL_depthOf) := goodIn_app (goodIn_of _ (by decide +kernel)) ggL_law_L_depthOf
set_option maxRecDepth 20000 in
theorem ggL_law_X10_depthOf : GoodIn wsL_law wsX10_depthOf := goodIn_ca (goodIn_r _ [615, 548, 549, 550, 5, 551, 398, 399, 400, 401, 94, 264, 265, 266, 267, 552, 553, 554, 555, 215, 1549, 1550, 1551, 1552, 1553, 1554, 1555, 1556, 1557, 1558, 1559, 1560, 1561, 1562, 1563, 1564, 1565, 1566] (by decide +kernel) (by decide +kernel)) (goodIn_sub (fun _ h => List.mem_append_left _ (List.mem_append_left _ (List.mem_append_left _ (List.mem_append_left _ (List.mem_append_left _ (List.mem_append_left _ (List.mem_append_right _ h))))))) (by decide +kernel))
set_option maxRecDepth 20000 in
theorem gL_law_X10_depthOf : GoodIn wsL_law (wsV RL 250 RX10 yX10_depthOf wsX10_depthOf) := goodIn_app (goodIn_of _ (by decide +kernel)) ggL_law_X10_depthOf
set_option maxRecDepth 20000 in
theorem ggL_law_L_doubtsOf : GoodIn wsL_law wsL_doubtsOf := goodIn_ca (goodIn_ca (goodIn_r _ [618, 224, 619, 620, 621, 2, 622, 623, 378, 379, 380, 381, 233, 234, 17, 382, 383, 384, 16, 385, 49, 243, 302, 1587, 1588, 1589, 1590, 1591, 1592, 1593, 1594, 1595, 1596, 1539, 1540, 1541, 1542, 1543, 1544, 1545, 1546, 1547, 1548, 1567, 1568, 1569, 1570, 1571, 1572, 1573] (by decide +kernel) (by decide +kernel)) (goodIn_sub (fun _ h => List.mem_append_left _ (List.mem_append_left _ (List.mem_append_left _ (List.mem_append_left _ (List.mem_append_left _ (List.mem_append_left _ (List.mem_append_right _ h))))))) (by decide +kernel))) (goodIn_sub (fun _ h => List.mem_append_left _ (List.mem_append_left _ (List.mem_append_left _ (List.mem_append_right _ h)))) (by decide +kernel))
set_option maxRecDepth 20000 in
theorem gL_law_L_doubtsOf : GoodIn wsL_law (va_wsS RL 251 yL_doubtsOf wsL_doubtsOf) := goodIn_app (goodIn_of _ (by decide +kernel)) ggL_law_L_doubtsOf
set_option maxRecDepth 20000 in
theorem ggL_law_X10_doubtsOf : GoodIn wsL_law wsX10_doubtsOf := goodIn_ca (goodIn_r _ [627, 548, 549, 550, 5, 551, 398, 399, 400, 401, 94, 264, 265, 266, 267, 552, 553, 554, 555, 215, 1549, 1550, 1551, 1552, 1553, 1554, 1555, 1556, 1557, 1558, 1559, 1560, 1561, 1562, 1563, 1564, 1565, 1566] (by decide +kernel) (by decide +kernel)) (goodIn_sub (fun _ h => List.mem_append_left _ (List.mem_append_left _ (List.mem_append_left _ (List.mem_append_left _ (List.mem_append_left _ (List.mem_append_left _ (List.mem_append_right _ h))))))) (by decide +kernel))
set_option maxRecDepth 20000 in
theorem gL_law_X10_doubtsOf : GoodIn wsL_law (wsV RL 253 RX10 yX10_doubtsOf wsX10_doubtsOf) := goodIn_app (goodIn_of _ (by decide +kernel)) ggL_law_X10_doubtsOf
set_option maxRecDepth 20000 in
theorem ggL_law_L_confidence : GoodIn wsL_law wsL_confidence := goodIn_ca (goodIn_ca (goodIn_r _ [630, 224, 631, 632, 633, 2, 634, 623, 378, 379, 380, 381, 233, 234, 17, 382, 383, 384, 16, 385, 49, 243, 302, 1587, 1588, 1589, 1590, 1591, 1592, 1593, 1594, 1595, 1596, 1539, 1540, 1541, 1542, 1543, 1544, 1545, 1546, 1547, 1548, 1567, 1568, 1569, 1570, 1571, 1572, 1573] (by decide +kernel) (by decide +kernel)) (goodIn_sub (fun _ h => List.mem_append_left _ (List.mem_append_left _ (List.mem_append_left _ (List.mem_append_left _ (List.mem_append_left _ (List.mem_append_left _ (List.mem_append_right _ h))))))) (by decide +kernel))) (goodIn_sub (fun _ h => List.mem_append_left _ (List.mem_append_left _ (List.mem_append_left _ (List.mem_append_right _ h)))) (by decide +kernel))
set_option maxRecDepth 20000 in
theorem gL_law_L_confidence : GoodIn wsL_law (va_wsS RL 254 yL_confidence wsL_confidence) := goodIn_app (goodIn_of _ (by decide +kernel)) ggL_law_L_confidence
set_option maxRecDepth 20000 in
theorem ggL_law_X10_confidence : GoodIn wsL_law wsX10_confidence := goodIn_ca (goodIn_r _ [638, 215, 548, 549, 550, 5, 551, 398, 399, 400, 401, 94, 264, 265, 266, 267, 552, 553, 554, 555, 1549, 1550, 1551, 1552, 1553, 1554, 1555, 1556, 1557, 1558, 1559, 1560, 1561, 1562, 1563, 1564, 1565, 1566] (by decide +kernel) (by decide +kernel)) (goodIn_sub (fun _ h => List.mem_append_left _ (List.mem_append_left _ (List.mem_append_left _ (List.mem_append_left _ (List.mem_append_left _ (List.mem_append_left _ (List.mem_append_right _ h))))))) (by decide +kernel))
set_option maxRecDepth 20000 in
theorem gL_law_X10_confidence : GoodIn wsL_law (wsV RL 257 RX10 yX10_confidence wsX10_confidence) := goodIn_app (goodIn_of _ (by decide +kernel)) ggL_law_X10_confidence
set_option maxRecDepth 20000 in
theorem ggL_law_L_isLate : GoodIn wsL_law wsL_isLate := goodIn_ca (goodIn_ca (goodIn_r _ [641, 224, 642, 643, 644, 2, 645, 646, 378, 379, 380, 381, 233, 234, 17, 382, 383, 384, 16, 385, 49, 243, 302, 1587, 1588, 1589, 1590, 1591, 1592, 1593, 1594, 1595, 1596, 1539, 1540, 1541, 1542, 1543, 1544, 1545, 1546, 1547, 1548, 1567, 1568, 1569, 1570, 1571, 1572, 1573] (by decide +kernel) (by decide +kernel)) (goodIn_sub (fun _ h => List.mem_append_left _ (List.mem_append_left _ (List.mem_append_left _ (List.mem_append_left _ (List.mem_append_left _ (List.mem_append_left _ (List.mem_append_right _ h))))))) (by decide +kernel))) (goodIn_sub (fun _ h => List.mem_append_left _ (List.mem_append_left _ (List.mem_append_left _ (List.mem_append_right _ h)))) (by decide +kernel))
set_option maxRecDepth 20000 in
theorem gL_law_L_isLate : GoodIn wsL_law (va_wsS RL 258 yL_isLate wsL_isLate) := goodIn_app (goodIn_of _ (by decide +kernel)) ggL_law_L_isLate
set_option maxRecDepth 20000 in
theorem ggL_law_X10_isLate : GoodIn wsL_law wsX10_isLate := goodIn_ca (goodIn_r _ [650, 548, 549, 550, 5, 551, 398, 399, 400, 401, 94, 264, 265, 266, 267, 552, 553, 554, 555, 215, 1549, 1550, 1551, 1552, 1553, 1554, 1555, 1556, 1557, 1558, 1559, 1560, 1561, 1562, 1563, 1564, 1565, 1566] (by decide +kernel) (by decide +kernel)) (goodIn_sub (fun _ h => List.mem_append_left _ (List.mem_append_left _ (List.mem_append_left _ (List.mem_append_left _ (List.mem_append_left _ (List.mem_append_left _ (List.mem_append_right _ h))))))) (by decide +kernel))
set_option maxRecDepth 20000 in
theorem gL_law_X10_isLate : GoodIn wsL_law (wsV RL 260 RX10 yX10_isLate wsX10_isLate) := goodIn_app (goodIn_of _ (by decide +kernel)) ggL_law_X10_isLate
set_option maxRecDepth 20000 in
theorem ggL_law_L_previousPrint : GoodIn wsL_law wsL_previousPrint := goodIn_ca (goodIn_ca (goodIn_ca (goodIn_r _ [653, 224, 654, 655, 656, 657, 2, 658, 17, 659, 378, 379, 380, 381, 233, 234, 382, 383, 384, 16, 385, 49, 243, 302, 660, 661, 662, 663, 334, 316, 244, 245, 246, 51, 247, 168, 170, 664, 665, 666, 667, 668, 1539, 1540, 1541, 1542, 1543, 1544, 1545, 1546, 1547, 1548, 1587, 1588, 1589, 1590, 1591, 1592, 1593, 1594, 1595, 1596, 1567, 1568, 1569, 1570, 1571, 1572, 1573] (by decide +kernel) (by decide +kernel)) (goodIn_sub (fun _ h => List.mem_append_left _ (List.mem_append_left _ (List.mem_append_left _ (List.mem_append_left _ (List.mem_append_left _ (List.mem_append_left _ (List.mem_append_right _ h))))))) (by decide +kernel))) (goodIn_sub (fun _ h => List.mem_append_left _ (List.mem_append_left _ (List.mem_append_left _ (List.mem_append_right _ h)))) (by decide +kernel))) (goodIn_sub (fun _ h => List.mem_append_left _ (List.mem_append_left _ (List.mem_append_right _ h))) (by decide +kernel))
set_option maxRecDepth 20000 in
theorem gL_law_L_previousPrint : GoodIn wsL_law (va_wsS RL 261 yL_previousPrint wsL_previousPrint) := goodIn_app (goodIn_of _ (by decide +kernel)) ggL_law_L_previousPrint
set_option maxRecDepth 20000 in
theorem ggL_law_X10_previousPrint : GoodIn wsL_law wsX10_previousPrint := goodIn_ca (goodIn_r _ [672, 673, 674, 675, 5, 676, 215, 398, 399, 400, 401, 94, 264, 265, 266, 267, 677, 678, 679, 680, 1549, 1550, 1551, 1552, 1553, 1554, 1555, 1556, 1557, 1558, 1559, 1560, 1561, 1562, 1563, 1564, 1565, 1566] (by decide +kernel) (by decide +kernel)) (goodIn_sub (fun _ h => List.mem_append_left _ (List.mem_append_left _ (List.mem_append_left _ (List.mem_append_left _ (List.mem_append_left _ (List.mem_append_left _ (List.mem_append_right _ h))))))) (by decide +kernel))
set_option maxRecDepth 20000 in
theorem gL_law_X10_previousPrint : GoodIn wsL_law (wsV RL 263 RX10 yX10_previousPrint wsX10_previousPrint) := goodIn_app (goodIn_of _ (by decide +kernel)) ggL_law_X10_previousPrint
set_option maxRecDepth 20000 in
theorem ggL_law_L_nextPrint : GoodIn wsL_law wsL_nextPrint := goodIn_ca (goodIn_ca (goodIn_ca (goodIn_r _ [683, 224, 654, 684, 685, 686, 2, 687, 17, 659, 378, 379, 380, 381, 233, 234, 382, 383, 384, 16, 385, 49, 243, 302, 688, 689, 690, 691, 334, 316, 244, 245, 246, 51, 247, 168, 170, 664, 665, 666, 667, 668, 1539, 1540, 1541, 1542, 1543, 1544, 1545, 1546, 1547, 1548, 1587, 1588, 1589, 1590, 1591, 1592, 1593, 1594, 1595, 1596, 1567, 1568, 1569, 1570, 1571, 1572, 1573] (by decide +kernel) (by decide +kernel)) (goodIn_sub (fun _ h => List.mem_append_left _ (List.mem_append_left _ (List.mem_append_left _ (List.mem_append_left _ (List.mem_append_left _ (List.mem_append_left _ (List.mem_append_right _ h))))))) (by decide +kernel))) (goodIn_sub (fun _ h => List.mem_append_left _ (List.mem_append_left _ (List.mem_append_left _ (List.mem_append_right _ h)))) (by decide +kernel))) (goodIn_sub (fun _ h => List.mem_append_left _ (List.mem_append_left _ (List.mem_append_right _ h))) (by decide +kernel))
set_option maxRecDepth 20000 in
theorem gL_law_L_nextPrint : GoodIn wsL_law (va_wsS RL 264 yL_nextPrint wsL_nextPrint) := goodIn_app (goodIn_of _ (by decide +kernel)) ggL_law_L_nextPrint
set_option maxRecDepth 20000 in
theorem ggL_law_X10_nextPrint : GoodIn wsL_law wsX10_nextPrint := goodIn_ca (goodIn_r _ [695, 673, 674, 675, 5, 676, 215, 398, 399, 400, 401, 94, 264, 265, 266, 267, 677, 678, 679, 680, 1549, 1550, 1551, 1552, 1553, 1554, 1555, 1556, 1557, 1558, 1559, 1560, 1561, 1562, 1563, 1564, 1565, 1566] (by decide +kernel) (by decide +kernel)) (goodIn_sub (fun _ h => List.mem_append_left _ (List.mem_append_left _ (List.mem_append_left _ (List.mem_append_left _ (List.mem_append_left _ (List.mem_append_left _ (List.mem_append_right _ h))))))) (by decide +kernel))
set_option maxRecDepth 20000 in
theorem gL_law_X10_nextPrint : GoodIn wsL_law (wsV RL 266 RX10 yX10_nextPrint wsX10_nextPrint) := goodIn_app (goodIn_of _ (by decide +kernel)) ggL_law_X10_nextPrint
set_option maxRecDepth 20000 in
theorem ggL_law_L_strideOf : GoodIn wsL_law wsL_strideOf := goodIn_ca (goodIn_ca (goodIn_ca (goodIn_r _ [698, 224, 654, 699, 700, 701, 2, 702, 17, 575, 587, 378, 379, 380, 381, 233, 234, 382, 383, 384, 16, 385, 49, 243, 302, 660, 661, 662, 663, 334, 316, 244, 245, 246, 51, 247, 168, 170, 664, 665, 666, 667, 668, 703, 414, 415, 416, 172, 417, 418, 146, 419, 173, 1539, 1540, 1541, 1542, 1543, 1544, 1545, 1546, 1547, 1548, 1587, 1588, 1589, 1590, 1591, 1592, 1593, 1594, 1595, 1596, 1567, 1568, 1569, 1570, 1571, 1572, 1573] (by decide +kernel) (by decide +kernel)) (goodIn_sub (fun _ h => List.mem_append_left _ (List.mem_append_left _ (List.mem_append_left _ (List.mem_append_left _ (List.mem_append_left _ (List.mem_append_left _ (List.mem_append_right _ h))))))) (by decide +kernel))) (goodIn_sub (fun _ h => List.mem_append_left _ (List.mem_append_left _ (List.mem_append_left _ (List.mem_append_right _ h)))) (by decide +kernel))) (goodIn_sub (fun _ h => List.mem_append_left _ (List.mem_append_left _ (List.mem_append_right _ h))) (by decide +kernel))
set_option maxRecDepth 20000 in
theorem gL_law_L_strideOf : GoodIn wsL_law (va_wsS RL 267 yL_strideOf wsL_strideOf) := goodIn_app (goodIn_of _ (by decide +kernel)) ggL_law_L_strideOf
set_option maxRecDepth 20000 in
theorem ggL_law_X10_strideOf : GoodIn wsL_law wsX10_strideOf := goodIn_ca (goodIn_r _ [707, 215, 398, 399, 400, 5, 401, 94, 264, 265, 266, 267, 677, 678, 679, 680, 708, 709, 710, 711, 432, 433, 434, 435, 436, 437, 438, 1549, 1550, 1551, 1552, 1553, 1554, 1555, 1556, 1557, 1558, 1559, 1560, 1561, 1562, 1563, 1564, 1565, 1566] (by decide +kernel) (by decide +kernel)) (goodIn_sub (fun _ h => List.mem_append_left _ (List.mem_append_left _ (List.mem_append_left _ (List.mem_append_left _ (List.mem_append_left _ (List.mem_append_left _ (List.mem_append_right _ h))))))) (by decide +kernel))
set_option maxRecDepth 20000 in
theorem gL_law_X10_strideOf : GoodIn wsL_law (wsV RL 269 RX10 yX10_strideOf wsX10_strideOf) := goodIn_app (goodIn_of _ (by decide +kernel)) ggL_law_X10_strideOf
set_option maxRecDepth 20000 in
theorem ggL_law_L_hasStrideError : GoodIn wsL_law wsL_hasStrideError := goodIn_ca (goodIn_ca (goodIn_r _ [714, 224, 715, 716, 717, 2, 718, 21, 378, 379, 380, 381, 233, 234, 17, 382, 383, 384, 16, 385, 49, 243, 302, 719, 720, 721, 20, 722, 62, 723, 661, 662, 663, 334, 316, 244, 245, 246, 51, 247, 168, 170, 724, 725, 726, 727, 728, 729, 730, 731, 732, 236, 237, 238, 45, 125, 182, 733, 414, 415, 416, 172, 417, 418, 146, 419, 173, 1539, 1540, 1541, 1542, 1543, 1544, 1545, 1546, 1547, 1548, 1567, 1568, 1569, 1570, 1571, 1572, 1573, 1587, 1588, 1589, 1590, 1591, 1592, 1593, 1594, 1595, 1596, 1574, 1584, 1585, 1586] (by decide +kernel) (by decide +kernel)) (goodIn_sub (fun _ h => List.mem_append_left _ (List.mem_append_left _ (List.mem_append_left _ (List.mem_append_left _ (List.mem_append_left _ (List.mem_append_left _ (List.mem_append_right _ h))))))) (by decide +kernel))) (goodIn_sub (fun _ h => List.mem_append_left _ (List.mem_append_left _ (List.mem_append_left _ (List.mem_append_right _ h)))) (by decide +kernel))
set_option maxRecDepth 20000 in
theorem gL_law_L_hasStrideError : GoodIn wsL_law (va_wsS RL 270 yL_hasStrideError wsL_hasStrideError) := goodIn_app (goodIn_of _ (by decide +kernel)) ggL_law_L_hasStrideError
set_option maxRecDepth 20000 in
theorem ggL_law_X10_hasStrideError : GoodIn wsL_law wsX10_hasStrideError := goodIn_ca (goodIn_r _ [737, 738, 739, 740, 5, 741, 398, 399, 400, 401, 94, 264, 265, 266, 267, 552, 553, 554, 555, 215, 742, 743, 744, 745, 677, 678, 679, 680, 708, 709, 710, 711, 432, 433, 434, 435, 436, 437, 438, 256, 257, 258, 259, 1549, 1550, 1551, 1552, 1553, 1554, 1555, 1556, 1557, 1558, 1559, 1560, 1561, 1562, 1563, 1564, 1565, 1566] (by decide +kernel) (by decide +kernel)) (goodIn_sub (fun _ h => List.mem_append_left _ (List.mem_append_left _ (List.mem_append_left _ (List.mem_append_left _ (List.mem_append_left _ (List.mem_append_left _ (List.mem_append_right _ h))))))) (by decide +kernel))
set_option maxRecDepth 20000 in
theorem gL_law_X10_hasStrideError : GoodIn wsL_law (wsV RL 272 RX10 yX10_hasStrideError wsX10_hasStrideError) := goodIn_app (goodIn_of _ (by decide +kernel)) ggL_law_X10_hasStrideError
set_option maxRecDepth 20000 in
theorem ggL_law_L_hasFootError : GoodIn wsL_law wsL_hasFootError := goodIn_ca (goodIn_ca (goodIn_r _ [748, 224, 749, 750, 751, 2, 752, 21, 378, 379, 380, 381, 233, 234, 17, 382, 383, 384, 16, 385, 49, 243, 302, 753, 754, 755, 20, 756, 62, 723, 661, 662, 663, 334, 316, 244, 245, 246, 51, 247, 168, 170, 757, 758, 759, 760, 761, 1539, 1540, 1541, 1542, 1543, 1544, 1545, 1546, 1547, 1548, 1567, 1568, 1569, 1570, 1571, 1572, 1573, 1587, 1588, 1589, 1590, 1591, 1592, 1593, 1594, 1595, 1596, 1574] (by decide +kernel) (by decide +kernel)) (goodIn_sub (fun _ h => List.mem_append_left _ (List.mem_append_left _ (List.mem_append_left _ (List.mem_append_left _ (List.mem_append_left _ (List.mem_append_left _ (List.mem_append_right _ h))))))) (by decide +kernel))) (goodIn_sub (fun _ h => List.mem_append_left _ (List.mem_append_left _ (List.mem_append_left _ (List.mem_append_right _ h)))) (by decide +kernel))
set_option maxRecDepth 20000 in
theorem gL_law_L_hasFootError : GoodIn wsL_law (va_wsS RL 273 yL_hasFootError wsL_hasFootError) := goodIn_app (goodIn_of _ (by decide +kernel)) ggL_law_L_hasFootError
set_option maxRecDepth 20000 in
theorem ggL_law_X10_hasFootError : GoodIn wsL_law wsX10_hasFootError := goodIn_ca (goodIn_r _ [765, 738, 739, 740, 5, 741, 398, 399, 400, 401, 94, 264, 265, 266, 267, 552, 553, 554, 555, 215, 742, 743, 744, 745, 677, 678, 679, 680, 708, 709, 710, 711, 432, 433, 434, 435, 436, 437, 438, 256, 257, 258, 259, 1549, 1550, 1551, 1552, 1553, 1554, 1555, 1556, 1557, 1558, 1559, 1560, 1561, 1562, 1563, 1564, 1565, 1566] (by decide +kernel) (by decide +kernel)) (goodIn_sub (fun _ h => List.mem_append_left _ (List.mem_append_left _ (List.mem_append_left _ (List.mem_append_left _ (List.mem_append_left _ (List.mem_append_left _ (List.mem_append_right _ h))))))) (by decide +kernel))
set_option maxRecDepth 20000 in
theorem gL_law_X10_hasFootError : GoodIn wsL_law (wsV RL 275 RX10 yX10_hasFootError wsX10_hasFootError) := goodIn_app (goodIn_of _ (by decide +kernel)) ggL_law_X10_hasFootError
set_option maxRecDepth 20000 in
theorem ggL_law_L_hasDepthError : GoodIn wsL_law wsL_hasDepthError := goodIn_ca (goodIn_ca (goodIn_r _ [768, 224, 769, 770, 771, 2, 772, 21, 378, 379, 380, 381, 233, 234, 17, 382, 383, 384, 16, 385, 49, 243, 302, 773, 774, 775, 20, 776, 62, 723, 661, 662, 663, 334, 316, 244, 245, 246, 51, 247, 168, 170, 777, 778, 779, 780, 781, 782, 418, 146, 419, 1539, 1540, 1541, 1542, 1543, 1544, 1545, 1546, 1547, 1548, 1567, 1568, 1569, 1570, 1571, 1572, 1573, 1587, 1588, 1589, 1590, 1591, 1592, 1593, 1594, 1595, 1596, 1574] (by decide +kernel) (by decide +kernel)) (goodIn_sub (fun _ h => List.mem_append_left _ (List.mem_append_left _ (List.mem_append_left _ (List.mem_append_left _ (List.mem_append_left _ (List.mem_append_left _ (List.mem_append_right _ h))))))) (by decide +kernel))) (goodIn_sub (fun _ h => List.mem_append_left _ (List.mem_append_left _ (List.mem_append_left _ (List.mem_append_right _ h)))) (by decide +kernel))
set_option maxRecDepth 20000 in
theorem gL_law_L_hasDepthError : GoodIn wsL_law (va_wsS RL 276 yL_hasDepthError wsL_hasDepthError) := goodIn_app (goodIn_of _ (by decide +kernel)) ggL_law_L_hasDepthError
set_option maxRecDepth 20000 in
theorem ggL_law_X10_hasDepthError : GoodIn wsL_law wsX10_hasDepthError := goodIn_ca (goodIn_r _ [786, 738, 739, 740, 5, 741, 398, 399, 400, 401, 94, 264, 265, 266, 267, 552, 553, 554, 555, 215, 742, 743, 744, 745, 677, 678, 679, 680, 708, 709, 710, 711, 432, 433, 434, 435, 436, 437, 438, 256, 257, 258, 259, 1549, 1550, 1551, 1552, 1553, 1554, 1555, 1556, 1557, 1558, 1559, 1560, 1561, 1562, 1563, 1564, 1565, 1566] (by decide +kernel) (by decide +kernel)) (goodIn_sub (fun _ h => List.mem_append_left _ (List.mem_append_left _ (List.mem_append_left _ (List.mem_append_left _ (List.mem_append_left _ (List.mem_append_left _ (List.mem_append_right _ h))))))) (by decide +kernel))
set_option maxRecDepth 20000 in
theorem gL_law_X10_hasDepthError : GoodIn wsL_law (wsV RL 278 RX10 yX10_hasDepthError wsX10_hasDepthError) := goodIn_app (goodIn_of _ (by decide +kernel)) ggL_law_X10_hasDepthError
set_option maxRecDepth 20000 in
theorem ggL_law_L_maxStride : GoodIn wsL_law wsL_maxStride := goodIn_ca (goodIn_ca (goodIn_r _ [789, 224, 790, 791, 792, 2, 793, 794, 229, 230, 231, 232, 233, 234, 17, 235, 236, 237, 16, 238, 45, 125, 182, 1584, 1585, 1586, 1539, 1540, 1541, 1542, 1543, 1544, 1545, 1546, 1547, 1548, 1567, 1568, 1569, 1570, 1571, 1572, 1573] (by decide +kernel) (by decide +kernel)) (goodIn_sub (fun _ h => List.mem_append_left _ (List.mem_append_left _ (List.mem_append_left _ (List.mem_append_left _ (List.mem_append_left _ (List.mem_append_left _ (List.mem_append_right _ h))))))) (by decide +kernel))) (goodIn_sub (fun _ h => List.mem_append_left _ (List.mem_append_left _ (List.mem_append_left _ (List.mem_append_right _ h)))) (by decide +kernel))
set_option maxRecDepth 20000 in
theorem gL_law_L_maxStride : GoodIn wsL_law (va_wsS RL 279 yL_maxStride wsL_maxStride) := goodIn_app (goodIn_of _ (by decide +kernel)) ggL_law_L_maxStride
set_option maxRecDepth 20000 in
theorem ggL_law_X10_maxStride : GoodIn wsL_law wsX10_maxStride := goodIn_ca (goodIn_r _ [798, 94, 256, 257, 258, 5, 259, 552, 553, 554, 555, 215, 1549, 1550, 1551, 1552, 1553, 1554, 1555, 1556, 1557, 1558, 1559, 1560, 1561, 1562, 1563, 1564, 1565, 1566] (by decide +kernel) (by decide +kernel)) (goodIn_sub (fun _ h => List.mem_append_left _ (List.mem_append_left _ (List.mem_append_left _ (List.mem_append_left _ (List.mem_append_left _ (List.mem_append_left _ (List.mem_append_right _ h))))))) (by decide +kernel))
set_option maxRecDepth 20000 in
theorem gL_law_X10_maxStride : GoodIn wsL_law (wsV RL 281 RX10 yX10_maxStride wsX10_maxStride) := goodIn_app (goodIn_of _ (by decide +kernel)) ggL_law_X10_maxStride
set_option maxRecDepth 20000 in
theorem ggL_law_L_printCount : GoodIn wsL_law wsL_printCount := goodIn_ca (goodIn_ca (goodIn_r _ [801, 224, 802, 803, 804, 2, 805, 17, 229, 230, 231, 232, 233, 234, 235, 236, 237, 16, 238, 45, 125, 182, 806, 807, 808, 809, 339, 340, 341, 342, 49, 316, 244, 245, 246, 51, 247, 168, 170, 1539, 1540, 1541, 1542, 1543, 1544, 1545, 1546, 1547, 1548, 1567, 1568, 1569, 1570, 1571, 1572, 1573, 1584, 1585, 1586, 1587, 1588, 1589, 1590, 1591, 1592, 1593, 1594, 1595, 1596] (by decide +kernel) (by decide +kernel)) (goodIn_sub (fun _ h => List.mem_append_left _ (List.mem_append_left _ (List.mem_append_left _ (List.mem_append_left _ (List.mem_append_left _ (List.mem_append_left _ (List.mem_append_right _ h))))))) (by decide +kernel))) (goodIn_sub (fun _ h => List.mem_append_left _ (List.mem_append_left _ (List.mem_append_left _ (List.mem_append_right _ h)))) (by decide +kernel))
set_option maxRecDepth 20000 in
theorem gL_law_L_printCount : GoodIn wsL_law (va_wsS RL 282 yL_printCount wsL_printCount) := goodIn_app (goodIn_of _ (by decide +kernel)) ggL_law_L_printCount
set_option maxRecDepth 20000 in
theorem ggL_law_X10_printCount : GoodIn wsL_law wsX10_printCount := goodIn_ca (goodIn_r _ [813, 256, 257, 258, 5, 259, 94, 552, 553, 554, 555, 215, 260, 261, 262, 263, 264, 265, 266, 267, 1549, 1550, 1551, 1552, 1553, 1554, 1555, 1556, 1557, 1558, 1559, 1560, 1561, 1562, 1563, 1564, 1565, 1566] (by decide +kernel) (by decide +kernel)) (goodIn_sub (fun _ h => List.mem_append_left _ (List.mem_append_left _ (List.mem_append_left _ (List.mem_append_left _ (List.mem_append_left _ (List.mem_append_left _ (List.mem_append_right _ h))))))) (by decide +kernel))
set_option maxRecDepth 20000 in
theorem gL_law_X10_printCount : GoodIn wsL_law (wsV RL 284 RX10 yX10_printCount wsX10_printCount) := goodIn_app (goodIn_of _ (by decide +kernel)) ggL_law_X10_printCount
set_option maxRecDepth 20000 in
theorem ggL_law_L_printAt : GoodIn wsL_law wsL_printAt := goodIn_ca (goodIn_ca (goodIn_ca (goodIn_r _ [816, 224, 654, 817, 818, 819, 2, 820, 17, 659, 229, 230, 231, 232, 233, 234, 235, 236, 237, 16, 238, 45, 125, 182, 821, 822, 823, 824, 49, 316, 244, 245, 246, 51, 247, 168, 170, 339, 340, 341, 342, 664, 665, 666, 667, 668, 1539, 1540, 1541, 1542, 1543, 1544, 1545, 1546, 1547, 1548, 1587, 1588, 1589, 1590, 1591, 1592, 1593, 1594, 1595, 1596, 1567, 1568, 1569, 1570, 1571, 1572, 1573, 1584, 1585, 1586] (by decide +kernel) (by decide +kernel)) (goodIn_sub (fun _ h => List.mem_append_left _ (List.mem_append_left _ (List.mem_append_left _ (List.mem_append_left _ (List.mem_append_left _ (List.mem_append_left _ (List.mem_append_right _ h))))))) (by decide +kernel))) (goodIn_sub (fun _ h => List.mem_append_left _ (List.mem_append_left _ (List.mem_append_left _ (List.mem_append_right _ h)))) (by decide +kernel))) (goodIn_sub (fun _ h => List.mem_append_left _ (List.mem_append_left _ (List.mem_append_right _ h))) (by decide +kernel))
set_option maxRecDepth 20000 in
theorem gL_law_L_printAt : GoodIn wsL_law (va_wsS RL 285 yL_printAt wsL_printAt) := goodIn_app (goodIn_of _ (by decide +kernel)) ggL_law_L_printAt
set_option maxRecDepth 20000 in
theorem ggL_law_X10_printAt : GoodIn wsL_law wsX10_printAt := goodIn_ca (goodIn_r _ [828, 215, 256, 257, 258, 5, 259, 94, 260, 261, 262, 263, 264, 265, 266, 267, 201, 202, 203, 829, 830, 831, 832, 1549, 1550, 1551, 1552, 1553, 1554, 1555, 1556, 1557, 1558, 1559, 1560, 1561, 1562, 1563, 1564, 1565, 1566] (by decide +kernel) (by decide +kernel)) (goodIn_sub (fun _ h => List.mem_append_left _ (List.mem_append_left _ (List.mem_append_left _ (List.mem_append_left _ (List.mem_append_left _ (List.mem_append_left _ (List.mem_append_right _ h))))))) (by decide +kernel))
set_option maxRecDepth 20000 in
theorem gL_law_X10_printAt : GoodIn wsL_law (wsV RL 288 RX10 yX10_printAt wsX10_printAt) := goodIn_app (goodIn_of _ (by decide +kernel)) ggL_law_X10_printAt
set_option maxRecDepth 20000 in
theorem ggL_law_L_trackLength : GoodIn wsL_law wsL_trackLength := goodIn_ca (goodIn_ca (goodIn_r _ [835, 224, 836, 837, 838, 2, 839, 21, 229, 230, 231, 232, 233, 234, 17, 235, 236, 237, 16, 238, 45, 125, 182, 840, 841, 842, 20, 843, 62, 844, 845, 729, 730, 846, 245, 246, 51, 247, 168, 170, 723, 661, 662, 663, 49, 334, 316, 244, 733, 414, 415, 416, 172, 417, 418, 146, 419, 173, 1539, 1540, 1541, 1542, 1543, 1544, 1545, 1546, 1547, 1548, 1567, 1568, 1569, 1570, 1571, 1572, 1573, 1584, 1585, 1586, 1574, 1587, 1588, 1589, 1590, 1591, 1592, 1593, 1594, 1595, 1596] (by decide +kernel) (by decide +kernel)) (goodIn_sub (fun _ h => List.mem_append_left _ (List.mem_append_left _ (List.mem_append_left _ (List.mem_append_left _ (List.mem_append_left _ (List.mem_append_left _ (List.mem_append_right _ h))))))) (by decide +kernel))) (goodIn_sub (fun _ h => List.mem_append_left _ (List.mem_append_left _ (List.mem_append_left _ (List.mem_append_right _ h)))) (by decide +kernel))
set_option maxRecDepth 20000 in
theorem gL_law_L_trackLength : GoodIn wsL_law (va_wsS RL 289 yL_trackLength wsL_trackLength) := goodIn_app (goodIn_of _ (by decide +kernel)) ggL_law_L_trackLength
set_option maxRecDepth 20000 in
theorem ggL_law_X10_trackLength : GoodIn wsL_law wsX10_trackLength := goodIn_ca (goodIn_r _ [850, 256, 257, 258, 5, 259, 94, 552, 553, 554, 555, 215, 851, 852, 853, 854, 264, 265, 266, 267, 708, 709, 710, 711, 677, 678, 679, 680, 432, 433, 434, 435, 436, 437, 438, 1549, 1550, 1551, 1552, 1553, 1554, 1555, 1556, 1557, 1558, 1559, 1560, 1561, 1562, 1563, 1564, 1565, 1566] (by decide +kernel) (by decide +kernel)) (goodIn_sub (fun _ h => List.mem_append_left _ (List.mem_append_left _ (List.mem_append_left _ (List.mem_append_left _ (List.mem_append_left _ (List.mem_append_left _ (List.mem_append_right _ h))))))) (by decide +kernel))
set_option maxRecDepth 20000 in
theorem gL_law_X10_trackLength : GoodIn wsL_law (wsV RL 291 RX10 yX10_trackLength wsX10_trackLength) := goodIn_app (goodIn_of _ (by decide +kernel)) ggL_law_X10_trackLength
set_option maxRecDepth 20000 in
theorem ggL_law_L_trackLengthAgain : GoodIn wsL_law wsL_trackLengthAgain := goodIn_ca (goodIn_ca (goodIn_r _ [857, 224, 858, 859, 860, 2, 861, 21, 229, 230, 231, 232, 233, 234, 17, 235, 236, 237, 16, 238, 45, 125, 182, 862, 863, 864, 20, 865, 62, 844, 845, 729, 782, 418, 146, 419, 730, 846, 245, 246, 51, 247, 168, 170, 723, 661, 662, 663, 49, 334, 316, 244, 1539, 1540, 1541, 1542, 1543, 1544, 1545, 1546, 1547, 1548, 1567, 1568, 1569, 1570, 1571, 1572, 1573, 1584, 1585, 1586, 1574, 1587, 1588, 1589, 1590, 1591, 1592, 1593, 1594, 1595, 1596] (by decide +kernel) (by decide +kernel)) (goodIn_sub (fun _ h => List.mem_append_left _ (List.mem_append_left _ (List.mem_append_left _ (List.mem_append_left _ (List.mem_append_left _ (List.mem_append_left _ (List.mem_append_right _ h))))))) (by decide +kernel))) (goodIn_sub (fun _ h => List.mem_append_left _ (List.mem_append_left _ (List.mem_append_left _ (List.mem_append_right _ h)))) (by decide +kernel))
set_option maxRecDepth 20000 in
theorem gL_law_L_trackLengthAgain : GoodIn wsL_law (va_wsS RL 292 yL_trackLengthAgain wsL_trackLengthAgain) := goodIn_app (goodIn_of _ (by decide +kernel)) ggL_law_L_trackLengthAgain
set_option maxRecDepth 20000 in
theorem ggL_law_X10_trackLengthAgain : GoodIn wsL_law wsX10_trackLengthAgain := goodIn_ca (goodIn_r _ [869, 870, 848, 849, 5, 850, 256, 257, 258, 259, 94, 552, 553, 554, 555, 215, 851, 852, 853, 854, 264, 265, 266, 267, 708, 709, 710, 711, 677, 678, 679, 680, 432, 433, 434, 435, 436, 437, 438, 1549, 1550, 1551, 1552, 1553, 1554, 1555, 1556, 1557, 1558, 1559, 1560, 1561, 1562, 1563, 1564, 1565, 1566] (by decide +kernel) (by decide +kernel)) (goodIn_sub (fun _ h => List.mem_append_left _ (List.mem_append_left _ (List.mem_append_left _ (List.mem_append_left _ (List.mem_append_left _ (List.mem_append_left _ (List.mem_append_right _ h))))))) (by decide +kernel))
set_option maxRecDepth 20000 in
theorem gL_law_X10_trackLengthAgain : GoodIn wsL_law (wsV RL 294 RX10 yX10_trackLengthAgain wsX10_trackLengthAgain) := goodIn_app (goodIn_of _ (by decide +kernel)) ggL_law_X10_trackLengthAgain
set_option maxRecDepth 20000 in
theorem ggL_law_L_errorCount : GoodIn wsL_law wsL_errorCount := goodIn_ca (goodIn_ca (goodIn_r _ [873, 224, 874, 875, 876, 2, 877, 21, 878, 229, 230, 231, 232, 233, 234, 17, 235, 236, 237, 16, 238, 45, 125, 182, 879, 880, 881, 20, 882, 62, 844, 846, 245, 246, 51, 247, 168, 170, 723, 661, 662, 663, 49, 334, 316, 244, 724, 725, 726, 727, 728, 729, 730, 731, 732, 733, 414, 415, 416, 172, 417, 418, 146, 419, 173, 757, 758, 759, 760, 761, 777, 778, 779, 780, 781, 782, 1539, 1540, 1541, 1542, 1543, 1544, 1545, 1546, 1547, 1548, 1584, 1585, 1586, 1567, 1568, 1569, 1570, 1571, 1572, 1573, 1574, 1587, 1588, 1589, 1590, 1591, 1592, 1593, 1594, 1595, 1596] (by decide +kernel) (by decide +kernel)) (goodIn_sub (fun _ h => List.mem_append_left _ (List.mem_append_left _ (List.mem_append_left _ (List.mem_append_left _ (List.mem_append_left _ (List.mem_append_left _ (List.mem_append_right _ h))))))) (by decide +kernel))) (goodIn_sub (fun _ h => List.mem_append_left _ (List.mem_append_left _ (List.mem_append_left _ (List.mem_append_right _ h)))) (by decide +kernel))
set_option maxRecDepth 20000 in
theorem gL_law_L_errorCount : GoodIn wsL_law (va_wsS RL 295 yL_errorCount wsL_errorCount) := goodIn_app (goodIn_of _ (by decide +kernel)) ggL_law_L_errorCount
set_option maxRecDepth 20000 in
theorem ggL_law_X10_errorCount : GoodIn wsL_law wsX10_errorCount := goodIn_ca (goodIn_r _ [886, 256, 257, 258, 5, 259, 94, 552, 553, 554, 555, 215, 887, 888, 889, 890, 264, 265, 266, 267, 891, 892, 893, 894, 742, 743, 744, 745, 677, 678, 679, 680, 708, 709, 710, 711, 432, 433, 434, 435, 436, 437, 438, 1549, 1550, 1551, 1552, 1553, 1554, 1555, 1556, 1557, 1558, 1559, 1560, 1561, 1562, 1563, 1564, 1565, 1566] (by decide +kernel) (by decide +kernel)) (goodIn_sub (fun _ h => List.mem_append_left _ (List.mem_append_left _ (List.mem_append_left _ (List.mem_append_left _ (List.mem_append_left _ (List.mem_append_left _ (List.mem_append_right _ h))))))) (by decide +kernel))
set_option maxRecDepth 20000 in
theorem gL_law_X10_errorCount : GoodIn wsL_law (wsV RL 297 RX10 yX10_errorCount wsX10_errorCount) := goodIn_app (goodIn_of _ (by decide +kernel)) ggL_law_X10_errorCount
set_option maxRecDepth 20000 in
theorem ggL_law_L_errorCountAgain : GoodIn wsL_law wsL_errorCountAgain := goodIn_ca (goodIn_ca (goodIn_r _ [897, 224, 898, 899, 900, 2, 901, 21, 878, 229, 230, 231, 232, 233, 234, 17, 235, 236, 237, 16, 238, 45, 125, 182, 902, 903, 904, 20, 905, 62, 844, 846, 245, 246, 51, 247, 168, 170, 723, 661, 662, 663, 49, 334, 316, 244, 724, 725, 726, 727, 728, 729, 730, 731, 732, 733, 414, 415, 416, 172, 417, 418, 146, 419, 173, 757, 758, 759, 760, 761, 777, 778, 779, 780, 781, 782, 1539, 1540, 1541, 1542, 1543, 1544, 1545, 1546, 1547, 1548, 1584, 1585, 1586, 1567, 1568, 1569, 1570, 1571, 1572, 1573, 1574, 1587, 1588, 1589, 1590, 1591, 1592, 1593, 1594, 1595, 1596] (by decide +kernel) (by decide +kernel)) (goodIn_sub (fun _ h => List.mem_append_left _ (List.mem_append_left _ (List.mem_append_left _ (List.mem_append_left _ (List.mem_append_left _ (List.mem_append_left _ (List.mem_append_right _ h))))))) (by decide +kernel))) (goodIn_sub (fun _ h => List.mem_append_left _ (List.mem_append_left _ (List.mem_append_left _ (List.mem_append_right _ h)))) (by decide +kernel))
set_option maxRecDepth 20000 in
theorem gL_law_L_errorCountAgain : GoodIn wsL_law (va_wsS RL 298 yL_errorCountAgain wsL_errorCountAgain) := goodIn_app (goodIn_of _ (by decide +kernel)) ggL_law_L_errorCountAgain
set_option maxRecDepth 20000 in
theorem ggL_law_X10_errorCountAgain : GoodIn wsL_law wsX10_errorCountAgain := goodIn_ca (goodIn_r _ [909, 910, 884, 885, 5, 886, 256, 257, 258, 259, 94, 552, 553, 554, 555, 215, 887, 888, 889, 890, 264, 265, 266, 267, 891, 892, 893, 894, 742, 743, 744, 745, 677, 678, 679, 680, 708, 709, 710, 711, 432, 433, 434, 435, 436, 437, 438, 1549, 1550, 1551, 1552, 1553, 1554, 1555, 1556, 1557, 1558, 1559, 1560, 1561, 1562, 1563, 1564, 1565, 1566] (by decide +kernel) (by decide +kernel)) (goodIn_sub (fun _ h => List.mem_append_left _ (List.mem_append_left _ (List.mem_append_left _ (List.mem_append_left _ (List.mem_append_left _ (List.mem_append_left _ (List.mem_append_right _ h))))))) (by decide +kernel))
set_option maxRecDepth 20000 in
theorem gL_law_X10_errorCountAgain : GoodIn wsL_law (wsV RL 300 RX10 yX10_errorCountAgain wsX10_errorCountAgain) := goodIn_app (goodIn_of _ (by decide +kernel)) ggL_law_X10_errorCountAgain
set_option maxRecDepth 20000 in
theorem ggL_law_L_duration : GoodIn wsL_law wsL_duration := goodIn_ca (goodIn_ca (goodIn_ca (goodIn_r _ [913, 224, 654, 914, 915, 916, 2, 917, 17, 563, 229, 230, 231, 232, 233, 234, 235, 236, 237, 16, 238, 45, 125, 182, 821, 822, 823, 824, 49, 316, 244, 245, 246, 51, 247, 168, 170, 339, 340, 341, 342, 664, 665, 666, 667, 668, 806, 807, 808, 809, 1539, 1540, 1541, 1542, 1543, 1544, 1545, 1546, 1547, 1548, 1587, 1588, 1589, 1590, 1591, 1592, 1593, 1594, 1595, 1596, 1567, 1568, 1569, 1570, 1571, 1572, 1573, 1584, 1585, 1586] (by decide +kernel) (by decide +kernel)) (goodIn_sub (fun _ h => List.mem_append_left _ (List.mem_append_left _ (List.mem_append_left _ (List.mem_append_left _ (List.mem_append_left _ (List.mem_append_left _ (List.mem_append_right _ h))))))) (by decide +kernel))) (goodIn_sub (fun _ h => List.mem_append_left _ (List.mem_append_left _ (List.mem_append_left _ (List.mem_append_right _ h)))) (by decide +kernel))) (goodIn_sub (fun _ h => List.mem_append_left _ (List.mem_append_left _ (List.mem_append_right _ h))) (by decide +kernel))
set_option maxRecDepth 20000 in
theorem gL_law_L_duration : GoodIn wsL_law (va_wsS RL 301 yL_duration wsL_duration) := goodIn_app (goodIn_of _ (by decide +kernel)) ggL_law_L_duration
set_option maxRecDepth 20000 in
theorem ggL_law_X10_duration : GoodIn wsL_law wsX10_duration := goodIn_ca (goodIn_r _ [921, 215, 260, 261, 262, 5, 263, 94, 264, 265, 266, 267, 256, 257, 258, 259, 829, 830, 831, 832, 1549, 1550, 1551, 1552, 1553, 1554, 1555, 1556, 1557, 1558, 1559, 1560, 1561, 1562, 1563, 1564, 1565, 1566] (by decide +kernel) (by decide +kernel)) (goodIn_sub (fun _ h => List.mem_append_left _ (List.mem_append_left _ (List.mem_append_left _ (List.mem_append_left _ (List.mem_append_left _ (List.mem_append_left _ (List.mem_append_right _ h))))))) (by decide +kernel))
set_option maxRecDepth 20000 in
theorem gL_law_X10_duration : GoodIn wsL_law (wsV RL 303 RX10 yX10_duration wsX10_duration) := goodIn_app (goodIn_of _ (by decide +kernel)) ggL_law_X10_duration
set_option maxRecDepth 20000 in
theorem ggL_law_L_averageStride : GoodIn wsL_law wsL_averageStride := goodIn_ca (goodIn_ca (goodIn_ca (goodIn_r _ [924, 224, 925, 926, 927, 928, 2, 929, 930, 931, 17, 21, 229, 230, 231, 232, 233, 234, 235, 236, 237, 16, 238, 45, 125, 182, 806, 807, 808, 809, 339, 340, 341, 342, 49, 316, 244, 245, 246, 51, 247, 168, 170, 840, 841, 842, 20, 843, 62, 844, 845, 729, 730, 846, 723, 661, 662, 663, 334, 733, 414, 415, 416, 172, 417, 418, 146, 419, 173, 1539, 1540, 1541, 1542, 1543, 1544, 1545, 1546, 1547, 1548, 1567, 1568, 1569, 1570, 1571, 1572, 1573, 1584, 1585, 1586, 1587, 1588, 1589, 1590, 1591, 1592, 1593, 1594, 1595, 1596, 1574] (by decide +kernel) (by decide +kernel)) (goodIn_sub (fun _ h => List.mem_append_left _ (List.mem_append_left _ (List.mem_append_left _ (List.mem_append_left _ (List.mem_append_left _ (List.mem_append_left _ (List.mem_append_right _ h))))))) (by decide +kernel))) (goodIn_sub (fun _ h => List.mem_append_left _ (List.mem_append_right _ h)) (by decide +kernel))) (goodIn_sub (fun _ h => List.mem_append_left _ (List.mem_append_left _ (List.mem_append_left _ (List.mem_append_right _ h)))) (by decide +kernel))
set_option maxRecDepth 20000 in
theorem gL_law_L_averageStride : GoodIn wsL_law (va_wsS RL 304 yL_averageStride wsL_averageStride) := goodIn_app (goodIn_of _ (by decide +kernel)) ggL_law_L_averageStride
set_option maxRecDepth 20000 in
theorem ggL_law_X10_averageStride : GoodIn wsL_law wsX10_averageStride := goodIn_ca (goodIn_r _ [935, 215, 260, 261, 262, 5, 263, 94, 264, 265, 266, 267, 256, 257, 258, 259, 851, 852, 853, 854, 708, 709, 710, 711, 677, 678, 679, 680, 432, 433, 434, 435, 436, 437, 438, 1549, 1550, 1551, 1552, 1553, 1554, 1555, 1556, 1557, 1558, 1559, 1560, 1561, 1562, 1563, 1564, 1565, 1566] (by decide +kernel) (by decide +kernel)) (goodIn_sub (fun _ h => List.mem_append_left _ (List.mem_append_left _ (List.mem_append_left _ (List.mem_append_left _ (List.mem_append_left _ (List.mem_append_left _ (List.mem_append_right _ h))))))) (by decide +kernel))
set_option maxRecDepth 20000 in
theorem gL_law_X10_averageStride : GoodIn wsL_law (wsV RL 306 RX10 yX10_averageStride wsX10_averageStride) := goodIn_app (goodIn_of _ (by decide +kernel)) ggL_law_X10_averageStride
set_option maxRecDepth 20000 in
theorem ggL_law_L_errorsIfMoved : GoodIn wsL_law wsL_errorsIfMoved := goodIn_ca (goodIn_ca (goodIn_r _ [938, 224, 939, 940, 941, 2, 942, 21, 378, 379, 380, 381, 233, 234, 17, 382, 383, 384, 16, 385, 49, 243, 302, 283, 284, 285, 286, 287, 288, 289, 290, 291, 943, 944, 945, 20, 946, 729, 730, 728, 947, 880, 881, 882, 62, 844, 846, 245, 246, 51, 247, 168, 170, 723, 661, 662, 663, 334, 316, 244, 724, 725, 726, 727, 731, 732, 236, 237, 238, 45, 125, 182, 733, 414, 415, 416, 172, 417, 418, 146, 419, 173, 757, 758, 759, 760, 761, 777, 778, 779, 780, 781, 782, 1539, 1540, 1541, 1542, 1543, 1544, 1545, 1546, 1547, 1548, 1567, 1568, 1569, 1570, 1571, 1572, 1573, 1587, 1588, 1589, 1590, 1591, 1592, 1593, 1594, 1595, 1596, 1574, 1584, 1585, 1586] (by decide +kernel) (by decide +kernel)) (goodIn_sub (fun _ h => List.mem_append_left _ (List.mem_append_left _ (List.mem_append_left _ (List.mem_append_left _ (List.mem_append_left _ (List.mem_append_left _ (List.mem_append_right _ h))))))) (by decide +kernel))) (goodIn_sub (fun _ h => List.mem_append_left _ (List.mem_append_left _ (List.mem_append_left _ (List.mem_append_right _ h)))) (by decide +kernel))
set_option maxRecDepth 20000 in
theorem gL_law_L_errorsIfMoved : GoodIn wsL_law (va_wsS RL 307 yL_errorsIfMoved wsL_errorsIfMoved) := goodIn_app (goodIn_of _ (by decide +kernel)) ggL_law_L_errorsIfMoved
set_option maxRecDepth 20000 in
theorem ggL_law_X10_errorsIfMoved : GoodIn wsL_law wsX10_errorsIfMoved := goodIn_ca (goodIn_r _ [951, 398, 399, 400, 5, 401, 94, 264, 265, 266, 267, 351, 352, 353, 201, 202, 203, 552, 553, 554, 555, 215, 952, 953, 954, 955, 272, 273, 274, 275, 887, 888, 889, 890, 891, 892, 893, 894, 742, 743, 744, 745, 677, 678, 679, 680, 708, 709, 710, 711, 432, 433, 434, 435, 436, 437, 438, 256, 257, 258, 259, 1549, 1550, 1551, 1552, 1553, 1554, 1555, 1556, 1557, 1558, 1559, 1560, 1561, 1562, 1563, 1564, 1565, 1566] (by decide +kernel) (by decide +kernel)) (goodIn_sub (fun _ h => List.mem_append_left _ (List.mem_append_left _ (List.mem_append_left _ (List.mem_append_left _ (List.mem_append_left _ (List.mem_append_left _ (List.mem_append_right _ h))))))) (by decide +kernel))
set_option maxRecDepth 20000 in
theorem gL_law_X10_errorsIfMoved : GoodIn wsL_law (wsV RL 309 RX10 yX10_errorsIfMoved wsX10_errorsIfMoved) := goodIn_app (goodIn_of _ (by decide +kernel)) ggL_law_X10_errorsIfMoved
set_option maxRecDepth 20000 in
theorem ggL_law_L_canMove : GoodIn wsL_law wsL_canMove := goodIn_ca (goodIn_ca (goodIn_r _ [958, 224, 959, 960, 961, 2, 962, 17, 378, 379, 380, 381, 233, 234, 382, 383, 384, 16, 385, 49, 243, 302, 283, 284, 285, 286, 287, 288, 289, 290, 291, 409, 410, 411, 412, 118, 119, 120, 413, 414, 415, 51, 416, 172, 417, 418, 146, 419, 173, 126, 127, 128, 129, 12, 13, 130, 131, 132, 317, 318, 319, 320, 152, 321, 322, 323, 324, 325, 326, 327, 328, 311, 329, 1539, 1540, 1541, 1542, 1543, 1544, 1545, 1546, 1547, 1548, 1567, 1568, 1569, 1570, 1571, 1572, 1573, 1587, 1588, 1589, 1590, 1591, 1592, 1593, 1594, 1595, 1596, 1604, 1605, 1606] (by decide +kernel) (by decide +kernel)) (goodIn_sub (fun _ h => List.mem_append_left _ (List.mem_append_left _ (List.mem_append_left _ (List.mem_append_left _ (List.mem_append_left _ (List.mem_append_left _ (List.mem_append_right _ h))))))) (by decide +kernel))) (goodIn_sub (fun _ h => List.mem_append_left _ (List.mem_append_left _ (List.mem_append_left _ (List.mem_append_right _ h)))) (by decide +kernel))
set_option maxRecDepth 20000 in
theorem gL_law_L_canMove : GoodIn wsL_law (va_wsS RL 310 yL_canMove wsL_canMove) := goodIn_app (goodIn_of _ (by decide +kernel)) ggL_law_L_canMove
set_option maxRecDepth 20000 in
theorem ggL_law_X10_canMove : GoodIn wsL_law wsX10_canMove := goodIn_ca (goodIn_r _ [966, 398, 399, 400, 5, 401, 94, 264, 265, 266, 267, 351, 352, 353, 201, 202, 203, 552, 553, 554, 555, 215, 967, 968, 969, 970, 432, 433, 434, 435, 436, 437, 438, 358, 359, 360, 361, 1549, 1550, 1551, 1552, 1553, 1554, 1555, 1556, 1557, 1558, 1559, 1560, 1561, 1562, 1563, 1564, 1565, 1566] (by decide +kernel) (by decide +kernel)) (goodIn_sub (fun _ h => List.mem_append_left _ (List.mem_append_left _ (List.mem_append_left _ (List.mem_append_left _ (List.mem_append_left _ (List.mem_append_left _ (List.mem_append_right _ h))))))) (by decide +kernel))
set_option maxRecDepth 20000 in
theorem gL_law_X10_canMove : GoodIn wsL_law (wsV RL 312 RX10 yX10_canMove wsX10_canMove) := goodIn_app (goodIn_of _ (by decide +kernel)) ggL_law_X10_canMove
set_option maxRecDepth 20000 in
theorem ggL_law_L_suggestCell : GoodIn wsL_law wsL_suggestCell := goodIn_ca (goodIn_ca (goodIn_r _ [973, 224, 974, 975, 976, 2, 977, 21, 378, 379, 380, 381, 233, 234, 17, 382, 383, 384, 16, 385, 49, 243, 302, 978, 979, 980, 20, 981, 729, 730, 728, 62, 947, 880, 881, 882, 844, 846, 245, 246, 51, 247, 168, 170, 723, 661, 662, 663, 334, 316, 244, 724, 725, 726, 727, 731, 732, 236, 237, 238, 45, 125, 182, 733, 414, 415, 416, 172, 417, 418, 146, 419, 173, 757, 758, 759, 760, 761, 777, 778, 779, 780, 781, 782, 287, 288, 289, 290, 291, 982, 410, 411, 412, 118, 119, 120, 413, 126, 127, 128, 129, 12, 13, 130, 131, 132, 317, 318, 319, 320, 152, 321, 322, 323, 324, 325, 326, 327, 328, 311, 329, 983, 944, 945, 946, 1539, 1540, 1541, 1542, 1543, 1544, 1545, 1546, 1547, 1548, 1567, 1568, 1569, 1570, 1571, 1572, 1573, 1587, 1588, 1589, 1590, 1591, 1592, 1593, 1594, 1595, 1596, 1574, 1584, 1585, 1586, 1604, 1605, 1606] (by decide +kernel) (by decide +kernel)) (goodIn_sub (fun _ h => List.mem_append_left _ (List.mem_append_left _ (List.mem_append_left _ (List.mem_append_left _ (List.mem_append_left _ (List.mem_append_left _ (List.mem_append_right _ h))))))) (by decide +kernel))) (goodIn_sub (fun _ h => List.mem_append_left _ (List.mem_append_left _ (List.mem_append_left _ (List.mem_append_right _ h)))) (by decide +kernel))
set_option maxRecDepth 20000 in
theorem gL_law_L_suggestCell : GoodIn wsL_law (va_wsS RL 313 yL_suggestCell wsL_suggestCell) := goodIn_app (goodIn_of _ (by decide +kernel)) ggL_law_L_suggestCell
set_option maxRecDepth 20000 in
theorem ggL_law_X10_suggestCell : GoodIn wsL_law wsX10_suggestCell := goodIn_ca (goodIn_r _ [987, 398, 399, 400, 5, 401, 94, 264, 265, 266, 267, 552, 553, 554, 555, 215, 887, 888, 889, 890, 891, 892, 893, 894, 742, 743, 744, 745, 677, 678, 679, 680, 708, 709, 710, 711, 432, 433, 434, 435, 436, 437, 438, 256, 257, 258, 259, 967, 968, 969, 970, 201, 202, 203, 358, 359, 360, 361, 952, 953, 954, 955, 272, 273, 274, 275, 1549, 1550, 1551, 1552, 1553, 1554, 1555, 1556, 1557, 1558, 1559, 1560, 1561, 1562, 1563, 1564, 1565, 1566] (by decide +kernel) (by decide +kernel)) (goodIn_sub (fun _ h => List.mem_append_left _ (List.mem_append_left _ (List.mem_append_left _ (List.mem_append_left _ (List.mem_append_left _ (List.mem_append_left _ (List.mem_append_right _ h))))))) (by decide +kernel))
set_option maxRecDepth 20000 in
theorem gL_law_X10_suggestCell : GoodIn wsL_law (wsV RL 315 RX10 yX10_suggestCell wsX10_suggestCell) := goodIn_app (goodIn_of _ (by decide +kernel)) ggL_law_X10_suggestCell
set_option maxRecDepth 20000 in
theorem ggL_law_L_trackByErrors : GoodIn wsL_law wsL_trackByErrors := goodIn_ca (goodIn_ca (goodIn_r _ [990, 654, 991, 992, 993, 2, 994, 667, 668, 17, 995, 996, 21, 878, 997, 998, 999, 20, 1000, 845, 62, 1001, 1002, 947, 880, 881, 882, 844, 846, 245, 246, 51, 247, 168, 170, 723, 661, 662, 16, 663, 49, 334, 316, 244, 724, 725, 726, 727, 728, 729, 730, 731, 732, 236, 237, 238, 45, 125, 182, 733, 414, 415, 416, 172, 417, 418, 146, 419, 173, 757, 758, 759, 760, 761, 777, 778, 779, 780, 781, 782, 1003, 807, 808, 809, 339, 340, 341, 342, 1539, 1540, 1541, 1542, 1543, 1544, 1545, 1546, 1547, 1548, 1567, 1568, 1569, 1570, 1571, 1572, 1573, 1584, 1585, 1586, 1574, 1587, 1588, 1589, 1590, 1591, 1592, 1593, 1594, 1595, 1596] (by decide +kernel) (by decide +kernel)) (goodIn_sub (fun _ h => List.mem_append_left _ (List.mem_append_left _ (List.mem_append_left _ (List.mem_append_left _ (List.mem_append_left _ (List.mem_append_left _ (List.mem_append_right _ h))))))) (by decide +kernel))) (goodIn_sub (fun _ h => List.mem_append_left _ (List.mem_append_left _ (List.mem_append_right _ h))) (by decide +kernel))
set_option maxRecDepth 20000 in
theorem gL_law_L_trackByErrors : GoodIn wsL_law (va_wsS RL 316 yL_trackByErrors wsL_trackByErrors) := goodIn_app (goodIn_of _ (by decide +kernel)) ggL_law_L_trackByErrors
set_option maxRecDepth 20000 in
theorem ggL_law_X10_trackByErrors : GoodIn wsL_law wsX10_trackByErrors := goodIn_ca (goodIn_r _ [1007, 94, 215, 887, 888, 889, 5, 890, 264, 265, 266, 267, 891, 892, 893, 894, 742, 743, 744, 745, 677, 678, 679, 680, 708, 709, 710, 711, 432, 433, 434, 435, 436, 437, 438, 256, 257, 258, 259, 260, 261, 262, 263, 552, 553, 554, 555, 1549, 1550, 1551, 1552, 1553, 1554, 1555, 1556, 1557, 1558, 1559, 1560, 1561, 1562, 1563, 1564, 1565, 1566] (by decide +kernel) (by decide +kernel)) (goodIn_sub (fun _ h => List.mem_append_left _ (List.mem_append_left _ (List.mem_append_left _ (List.mem_append_left _ (List.mem_append_left _ (List.mem_append_left _ (List.mem_append_right _ h))))))) (by decide +kernel))
set_option maxRecDepth 20000 in
theorem gL_law_X10_trackByErrors : GoodIn wsL_law (wsV RL 318 RX10 yX10_trackByErrors wsX10_trackByErrors) := goodIn_app (goodIn_of _ (by decide +kernel)) ggL_law_X10_trackByErrors
set_option maxRecDepth 20000 in
theorem ggL_law_L_printByDoubts : GoodIn wsL_law wsL_printByDoubts := goodIn_ca (goodIn_ca (goodIn_r _ [1010, 654, 1011, 1012, 1013, 2, 1014, 667, 668, 17, 1015, 1016, 659, 1017, 1018, 1019, 16, 1020, 49, 337, 316, 302, 243, 1539, 1540, 1541, 1542, 1543, 1544, 1545, 1546, 1547, 1548, 1567, 1568, 1569, 1570, 1571, 1572, 1573, 1587, 1588, 1589, 1590, 1591, 1592, 1593, 1594, 1595, 1596] (by decide +kernel) (by decide +kernel)) (goodIn_sub (fun _ h => List.mem_append_left _ (List.mem_append_left _ (List.mem_append_left _ (List.mem_append_left _ (List.mem_append_left _ (List.mem_append_left _ (List.mem_append_right _ h))))))) (by decide +kernel))) (goodIn_sub (fun _ h => List.mem_append_left _ (List.mem_append_left _ (List.mem_append_right _ h))) (by decide +kernel))
set_option maxRecDepth 20000 in
theorem gL_law_L_printByDoubts : GoodIn wsL_law (va_wsS RL 319 yL_printByDoubts wsL_printByDoubts) := goodIn_app (goodIn_of _ (by decide +kernel)) ggL_law_L_printByDoubts
set_option maxRecDepth 20000 in
theorem ggL_law_X10_printByDoubts : GoodIn wsL_law wsX10_printByDoubts := goodIn_ca (goodIn_r _ [1024, 94, 215, 264, 265, 266, 5, 267, 552, 553, 554, 555, 1549, 1550, 1551, 1552, 1553, 1554, 1555, 1556, 1557, 1558, 1559, 1560, 1561, 1562, 1563, 1564, 1565, 1566] (by decide +kernel) (by decide +kernel)) (goodIn_sub (fun _ h => List.mem_append_left _ (List.mem_append_left _ (List.mem_append_left _ (List.mem_append_left _ (List.mem_append_left _ (List.mem_append_left _ (List.mem_append_right _ h))))))) (by decide +kernel))
set_option maxRecDepth 20000 in
theorem gL_law_X10_printByDoubts : GoodIn wsL_law (wsV RL 321 RX10 yX10_printByDoubts wsX10_printByDoubts) := goodIn_app (goodIn_of _ (by decide +kernel)) ggL_law_X10_printByDoubts
set_option maxRecDepth 20000 in
theorem ggL_law_L_printIn : GoodIn wsL_law wsL_printIn := goodIn_ca (goodIn_ca (goodIn_ca (goodIn_r _ [1027, 224, 654, 1028, 1029, 1030, 2, 1031, 17, 659, 283, 284, 285, 233, 234, 286, 287, 288, 289, 290, 291, 1032, 326, 327, 16, 328, 49, 243, 311, 329, 664, 665, 666, 667, 668, 1539, 1540, 1541, 1542, 1543, 1544, 1545, 1546, 1547, 1548, 1587, 1588, 1589, 1590, 1591, 1592, 1593, 1594, 1595, 1596, 1567, 1568, 1569, 1570, 1571, 1572, 1573] (by decide +kernel) (by decide +kernel)) (goodIn_sub (fun _ h => List.mem_append_left _ (List.mem_append_left _ (List.mem_append_left _ (List.mem_append_left _ (List.mem_append_left _ (List.mem_append_left _ (List.mem_append_right _ h))))))) (by decide +kernel))) (goodIn_sub (fun _ h => List.mem_append_left _ (List.mem_append_left _ (List.mem_append_left _ (List.mem_append_right _ h)))) (by decide +kernel))) (goodIn_sub (fun _ h => List.mem_append_left _ (List.mem_append_left _ (List.mem_append_right _ h))) (by decide +kernel))
set_option maxRecDepth 20000 in
theorem gL_law_L_printIn : GoodIn wsL_law (va_wsS RL 322 yL_printIn wsL_printIn) := goodIn_app (goodIn_of _ (by decide +kernel)) ggL_law_L_printIn
set_option maxRecDepth 20000 in
theorem ggL_law_X10_printIn : GoodIn wsL_law wsX10_printIn := goodIn_ca (goodIn_r _ [1036, 215, 358, 359, 360, 5, 361, 94, 264, 265, 266, 267, 351, 352, 353, 201, 202, 203, 1549, 1550, 1551, 1552, 1553, 1554, 1555, 1556, 1557, 1558, 1559, 1560, 1561, 1562, 1563, 1564, 1565, 1566] (by decide +kernel) (by decide +kernel)) (goodIn_sub (fun _ h => List.mem_append_left _ (List.mem_append_left _ (List.mem_append_left _ (List.mem_append_left _ (List.mem_append_left _ (List.mem_append_left _ (List.mem_append_right _ h))))))) (by decide +kernel))
set_option maxRecDepth 20000 in
theorem gL_law_X10_printIn : GoodIn wsL_law (wsV RL 324 RX10 yX10_printIn wsX10_printIn) := goodIn_app (goodIn_of _ (by decide +kernel)) ggL_law_X10_printIn
set_option maxRecDepth 20000 in
theorem ggL_law_L_printsInRow : GoodIn wsL_law wsL_printsInRow := goodIn_ca (goodIn_ca (goodIn_r _ [1039, 224, 1040, 1041, 1042, 2, 1043, 17, 1044, 1045, 1046, 233, 234, 289, 290, 291, 1047, 308, 309, 16, 310, 49, 243, 311, 1539, 1540, 1541, 1542, 1543, 1544, 1545, 1546, 1547, 1548, 1567, 1568, 1569, 1570, 1571, 1572, 1573, 1587, 1588, 1589, 1590, 1591, 1592, 1593, 1594, 1595, 1596] (by decide +kernel) (by decide +kernel)) (goodIn_sub (fun _ h => List.mem_append_left _ (List.mem_append_left _ (List.mem_append_left _ (List.mem_append_left _ (List.mem_append_left _ (List.mem_append_left _ (List.mem_append_right _ h))))))) (by decide +kernel))) (goodIn_sub (fun _ h => List.mem_append_left _ (List.mem_append_left _ (List.mem_append_left _ (List.mem_append_right _ h)))) (by decide +kernel))
set_option maxRecDepth 20000 in
theorem gL_law_L_printsInRow : GoodIn wsL_law (va_wsS RL 325 yL_printsInRow wsL_printsInRow) := goodIn_app (goodIn_of _ (by decide +kernel)) ggL_law_L_printsInRow
set_option maxRecDepth 20000 in
theorem ggL_law_X10_printsInRow : GoodIn wsL_law wsX10_printsInRow := goodIn_ca (goodIn_r _ [1051, 201, 202, 5, 203, 552, 553, 554, 555, 215, 533, 534, 535, 536, 94, 264, 265, 266, 267, 1549, 1550, 1551, 1552, 1553, 1554, 1555, 1556, 1557, 1558, 1559, 1560, 1561, 1562, 1563, 1564, 1565, 1566] (by decide +kernel) (by decide +kernel)) (goodIn_sub (fun _ h => List.mem_append_left _ (List.mem_append_left _ (List.mem_append_left _ (List.mem_append_left _ (List.mem_append_left _ (List.mem_append_left _ (List.mem_append_right _ h))))))) (by decide +kernel))
set_option maxRecDepth 20000 in
theorem gL_law_X10_printsInRow : GoodIn wsL_law (wsV RL 327 RX10 yX10_printsInRow wsX10_printsInRow) := goodIn_app (goodIn_of _ (by decide +kernel)) ggL_law_X10_printsInRow
set_option maxRecDepth 20000 in
theorem ggL_law_X9_tideLevel : GoodIn wsL_law wsX9_tideLevel := goodIn_r _ [1055, 17, 1056, 1539, 1540, 1541, 1542, 1543, 1544, 1545, 1546, 1547, 1548, 1567, 1568, 1569, 1570, 1571, 1572, 1573] (by decide +kernel) (by decide +kernel)
set_option maxRecDepth 20000 in
theorem gL_law_X9_tideLevel : GoodIn wsL_law (wsV RL 328 RX9 yX9_tideLevel wsX9_tideLevel) := goodIn_app (goodIn_of _ (by decide +kernel)) ggL_law_X9_tideLevel
set_option maxRecDepth 20000 in
theorem ggL_law_X10_tideLevel : GoodIn wsL_law wsX10_tideLevel := goodIn_ca (goodIn_r _ [1060, 215, 94, 1549, 1550, 1551, 1552, 1553, 1554, 1555, 1556, 1557, 1558, 1559, 1560, 1561, 1562, 1563, 1564, 1565, 1566] (by decide +kernel) (by decide +kernel)) (goodIn_sub (fun _ h => List.mem_append_left _ (List.mem_append_left _ (List.mem_append_left _ (List.mem_append_left _ (List.mem_append_left _ (List.mem_append_left _ (List.mem_append_right _ h))))))) (by decide +kernel))
set_option maxRecDepth 20000 in
theorem gL_law_X10_tideLevel : GoodIn wsL_law (wsV RL 331 RX10 yX10_tideLevel wsX10_tideLevel) := goodIn_app (goodIn_of _ (by decide +kernel)) ggL_law_X10_tideLevel
set_option maxRecDepth 20000 in
theorem ggL_law_L_erasedBy : GoodIn wsL_law wsL_erasedBy := goodIn_ca (goodIn_ca (goodIn_r _ [1063, 103, 1064, 1065, 1066, 2, 1067, 17, 511, 512, 513, 109, 110, 514, 515, 516, 1047, 308, 309, 16, 310, 49, 243, 311, 1539, 1540, 1541, 1542, 1543, 1544, 1545, 1546, 1547, 1548, 1567, 1568, 1569, 1570, 1571, 1572, 1573, 1587, 1588, 1589, 1590, 1591, 1592, 1593, 1594, 1595, 1596] (by decide +kernel) (by decide +kernel)) (goodIn_sub (fun _ h => List.mem_append_left _ (List.mem_append_left _ (List.mem_append_left _ (List.mem_append_left _ (List.mem_append_left _ (List.mem_append_left _ (List.mem_append_right _ h))))))) (by decide +kernel))) (goodIn_sub (fun _ h => List.mem_append_left _ (List.mem_append_left _ (List.mem_append_left _ (List.mem_append_left _ (List.mem_append_left _ (List.mem_append_right _ h)))))) (by decide +kernel))
set_option maxRecDepth 20000 in
theorem gL_law_L_erasedBy : GoodIn wsL_law (va_wsS RL 332 yL_erasedBy wsL_erasedBy) := goodIn_app (goodIn_of _ (by decide +kernel)) ggL_law_L_erasedBy
set_option maxRecDepth 20000 in
theorem ggL_law_X10_erasedBy : GoodIn wsL_law wsX10_erasedBy := goodIn_ca (goodIn_r _ [1071, 201, 202, 5, 203, 552, 553, 554, 555, 215, 533, 534, 535, 536, 94, 264, 265, 266, 267, 1549, 1550, 1551, 1552, 1553, 1554, 1555, 1556, 1557, 1558, 1559, 1560, 1561, 1562, 1563, 1564, 1565, 1566] (by decide +kernel) (by decide +kernel)) (goodIn_sub (fun _ h => List.mem_append_left _ (List.mem_append_left _ (List.mem_append_left _ (List.mem_append_left _ (List.mem_append_left _ (List.mem_append_left _ (List.mem_append_right _ h))))))) (by decide +kernel))
set_option maxRecDepth 20000 in
theorem gL_law_X10_erasedBy : GoodIn wsL_law (wsV RL 334 RX10 yX10_erasedBy wsX10_erasedBy) := goodIn_app (goodIn_of _ (by decide +kernel)) ggL_law_X10_erasedBy
set_option maxRecDepth 20000 in
theorem ggL_law_X9_trackCount : GoodIn wsL_law wsX9_trackCount := goodIn_r _ [1075, 17, 1076, 122, 123, 16, 124, 45, 125, 1539, 1540, 1541, 1542, 1543, 1544, 1545, 1546, 1547, 1548, 1567, 1568, 1569, 1570, 1571, 1572, 1573, 1584, 1585, 1586] (by decide +kernel) (by decide +kernel)
set_option maxRecDepth 20000 in
theorem gL_law_X9_trackCount : GoodIn wsL_law (wsV RL 335 RX9 yX9_trackCount wsX9_trackCount) := goodIn_app (goodIn_of _ (by decide +kernel)) ggL_law_X9_trackCount
set_option maxRecDepth 20000 in
theorem ggL_law_X10_trackCount : GoodIn wsL_law wsX10_trackCount := goodIn_ca (goodIn_r _ [1080, 215, 94, 1549, 1550, 1551, 1552, 1553, 1554, 1555, 1556, 1557, 1558, 1559, 1560, 1561, 1562, 1563, 1564, 1565, 1566] (by decide +kernel) (by decide +kernel)) (goodIn_sub (fun _ h => List.mem_append_left _ (List.mem_append_left _ (List.mem_append_left _ (List.mem_append_left _ (List.mem_append_left _ (List.mem_append_left _ (List.mem_append_right _ h))))))) (by decide +kernel))
set_option maxRecDepth 20000 in
theorem gL_law_X10_trackCount : GoodIn wsL_law (wsV RL 338 RX10 yX10_trackCount wsX10_trackCount) := goodIn_app (goodIn_of _ (by decide +kernel)) ggL_law_X10_trackCount
set_option maxRecDepth 20000 in
theorem ggL_law_X9_totalPrints : GoodIn wsL_law wsX9_totalPrints := goodIn_r _ [1084, 17, 1085, 304, 305, 16, 306, 307, 308, 309, 310, 49, 243, 311, 1539, 1540, 1541, 1542, 1543, 1544, 1545, 1546, 1547, 1548, 1567, 1568, 1569, 1570, 1571, 1572, 1573, 1587, 1588, 1589, 1590, 1591, 1592, 1593, 1594, 1595, 1596] (by decide +kernel) (by decide +kernel)
set_option maxRecDepth 20000 in
theorem gL_law_X9_totalPrints : GoodIn wsL_law (wsV RL 339 RX9 yX9_totalPrints wsX9_totalPrints) := goodIn_app (goodIn_of _ (by decide +kernel)) ggL_law_X9_totalPrints
set_option maxRecDepth 20000 in
theorem ggL_law_X10_totalPrints : GoodIn wsL_law wsX10_totalPrints := goodIn_ca (goodIn_r _ [1089, 215, 94, 1549, 1550, 1551, 1552, 1553, 1554, 1555, 1556, 1557, 1558, 1559, 1560, 1561, 1562, 1563, 1564, 1565, 1566] (by decide +kernel) (by decide +kernel)) (goodIn_sub (fun _ h => List.mem_append_left _ (List.mem_append_left _ (List.mem_append_left _ (List.mem_append_left _ (List.mem_append_left _ (List.mem_append_left _ (List.mem_append_right _ h))))))) (by decide +kernel))
set_option maxRecDepth 20000 in
theorem gL_law_X10_totalPrints : GoodIn wsL_law (wsV RL 342 RX10 yX10_totalPrints wsX10_totalPrints) := goodIn_app (goodIn_of _ (by decide +kernel)) ggL_law_X10_totalPrints
set_option maxRecDepth 20000 in
theorem ggL_law_X9_erasedPrints : GoodIn wsL_law wsX9_erasedPrints := goodIn_r _ [1093, 17, 1094, 1539, 1540, 1541, 1542, 1543, 1544, 1545, 1546, 1547, 1548, 1567, 1568, 1569, 1570, 1571, 1572, 1573] (by decide +kernel) (by decide +kernel)
set_option maxRecDepth 20000 in
theorem gL_law_X9_erasedPrints : GoodIn wsL_law (wsV RL 343 RX9 yX9_erasedPrints wsX9_erasedPrints) := goodIn_app (goodIn_of _ (by decide +kernel)) ggL_law_X9_erasedPrints
set_option maxRecDepth 20000 in
theorem ggL_law_X10_erasedPrints : GoodIn wsL_law wsX10_erasedPrints := goodIn_ca (goodIn_r _ [1098, 215, 94, 1549, 1550, 1551, 1552, 1553, 1554, 1555, 1556, 1557, 1558, 1559, 1560, 1561, 1562, 1563, 1564, 1565, 1566] (by decide +kernel) (by decide +kernel)) (goodIn_sub (fun _ h => List.mem_append_left _ (List.mem_append_left _ (List.mem_append_left _ (List.mem_append_left _ (List.mem_append_left _ (List.mem_append_left _ (List.mem_append_right _ h))))))) (by decide +kernel))
set_option maxRecDepth 20000 in
theorem gL_law_X10_erasedPrints : GoodIn wsL_law (wsV RL 346 RX10 yX10_erasedPrints wsX10_erasedPrints) := goodIn_app (goodIn_of _ (by decide +kernel)) ggL_law_X10_erasedPrints
set_option maxRecDepth 20000 in
theorem ggL_law_X9_correctedHeels : GoodIn wsL_law wsX9_correctedHeels := goodIn_r _ [1102, 17, 1103, 1539, 1540, 1541, 1542, 1543, 1544, 1545, 1546, 1547, 1548, 1567, 1568, 1569, 1570, 1571, 1572, 1573] (by decide +kernel) (by decide +kernel)
set_option maxRecDepth 20000 in
theorem gL_law_X9_correctedHeels : GoodIn wsL_law (wsV RL 347 RX9 yX9_correctedHeels wsX9_correctedHeels) := goodIn_app (goodIn_of _ (by decide +kernel)) ggL_law_X9_correctedHeels
set_option maxRecDepth 20000 in
theorem ggL_law_X10_correctedHeels : GoodIn wsL_law wsX10_correctedHeels := goodIn_ca (goodIn_r _ [1107, 215, 94, 1549, 1550, 1551, 1552, 1553, 1554, 1555, 1556, 1557, 1558, 1559, 1560, 1561, 1562, 1563, 1564, 1565, 1566] (by decide +kernel) (by decide +kernel)) (goodIn_sub (fun _ h => List.mem_append_left _ (List.mem_append_left _ (List.mem_append_left _ (List.mem_append_left _ (List.mem_append_left _ (List.mem_append_left _ (List.mem_append_right _ h))))))) (by decide +kernel))
set_option maxRecDepth 20000 in
theorem gL_law_X10_correctedHeels : GoodIn wsL_law (wsV RL 350 RX10 yX10_correctedHeels wsX10_correctedHeels) := goodIn_app (goodIn_of _ (by decide +kernel)) ggL_law_X10_correctedHeels
set_option maxRecDepth 20000 in
theorem ggL_law_L_lateShare : GoodIn wsL_law wsL_lateShare := goodIn_ca (goodIn_ca (goodIn_r _ [1110, 925, 1111, 1112, 1113, 2, 1114, 930, 931, 17, 1085, 304, 305, 16, 306, 307, 308, 309, 310, 49, 243, 311, 1115, 1116, 1117, 1118, 338, 1539, 1540, 1541, 1542, 1543, 1544, 1545, 1546, 1547, 1548, 1567, 1568, 1569, 1570, 1571, 1572, 1573, 1587, 1588, 1589, 1590, 1591, 1592, 1593, 1594, 1595, 1596] (by decide +kernel) (by decide +kernel)) (goodIn_sub (fun _ h => List.mem_append_left _ (List.mem_append_left _ (List.mem_append_left _ (List.mem_append_left _ (List.mem_append_left _ (List.mem_append_left _ (List.mem_append_right _ h))))))) (by decide +kernel))) (goodIn_sub (fun _ h => List.mem_append_left _ (List.mem_append_right _ h)) (by decide +kernel))
set_option maxRecDepth 20000 in
theorem gL_law_L_lateShare : GoodIn wsL_law (va_wsS RL 351 yL_lateShare wsL_lateShare) := goodIn_app (goodIn_of _ (by decide +kernel)) ggL_law_L_lateShare
set_option maxRecDepth 20000 in
theorem ggL_law_X10_lateShare : GoodIn wsL_law wsX10_lateShare := goodIn_ca (goodIn_r _ [1122, 94, 552, 553, 554, 5, 555, 215, 264, 265, 266, 267, 1549, 1550, 1551, 1552, 1553, 1554, 1555, 1556, 1557, 1558, 1559, 1560, 1561, 1562, 1563, 1564, 1565, 1566] (by decide +kernel) (by decide +kernel)) (goodIn_sub (fun _ h => List.mem_append_left _ (List.mem_append_left _ (List.mem_append_left _ (List.mem_append_left _ (List.mem_append_left _ (List.mem_append_left _ (List.mem_append_right _ h))))))) (by decide +kernel))
set_option maxRecDepth 20000 in
theorem gL_law_X10_lateShare : GoodIn wsL_law (wsV RL 354 RX10 yX10_lateShare wsX10_lateShare) := goodIn_app (goodIn_of _ (by decide +kernel)) ggL_law_X10_lateShare
set_option maxRecDepth 20000 in
theorem ggL_law_X9_isConsistent : GoodIn wsL_law wsX9_isConsistent := goodIn_r _ [1126, 21, 1127, 1128, 1129, 20, 1130, 62, 1001, 1002, 844, 1131, 729, 730, 1132, 1133, 1134, 1135, 845, 1136, 841, 842, 843, 846, 245, 246, 51, 247, 168, 170, 723, 661, 662, 16, 663, 49, 334, 316, 244, 733, 414, 415, 416, 172, 417, 418, 146, 419, 173, 1137, 863, 864, 865, 782, 947, 880, 881, 882, 724, 725, 726, 727, 728, 731, 732, 236, 237, 238, 45, 125, 182, 757, 758, 759, 760, 761, 777, 778, 779, 780, 781, 1138, 903, 904, 905, 1139, 1140, 1141, 1142, 1143, 1003, 807, 808, 809, 339, 340, 341, 342, 1144, 822, 823, 824, 1145, 322, 323, 324, 152, 1146, 326, 327, 328, 243, 311, 329, 1539, 1540, 1541, 1542, 1543, 1544, 1545, 1546, 1547, 1548, 1574, 1567, 1568, 1569, 1570, 1571, 1572, 1573, 1584, 1585, 1586, 1587, 1588, 1589, 1590, 1591, 1592, 1593, 1594, 1595, 1596] (by decide +kernel) (by decide +kernel)
set_option maxRecDepth 20000 in
theorem gL_law_X9_isConsistent : GoodIn wsL_law (wsV RL 355 RX9 yX9_isConsistent wsX9_isConsistent) := goodIn_app (goodIn_of _ (by decide +kernel)) ggL_law_X9_isConsistent
set_option maxRecDepth 20000 in
theorem ggL_law_X10_isConsistent : GoodIn wsL_law wsX10_isConsistent := goodIn_r _ [1150, 215, 1549, 1550, 1551, 1552, 1553, 1554, 1555, 1556, 1557, 1558, 1559, 1560, 1561, 1562, 1563, 1564, 1565, 1566] (by decide +kernel) (by decide +kernel)
set_option maxRecDepth 20000 in
theorem gL_law_X10_isConsistent : GoodIn wsL_law (wsV RL 359 RX10 yX10_isConsistent wsX10_isConsistent) := goodIn_app (goodIn_of _ (by decide +kernel)) ggL_law_X10_isConsistent
set_option maxRecDepth 20000 in
theorem ggL_law_L_writeTrack : GoodIn wsL_law wsL_writeTrack := goodIn_ca (goodIn_ca (goodIn_r _ [1153, 224, 1154, 1155, 1156, 2, 1157, 37, 17, 1158, 229, 230, 231, 232, 233, 234, 235, 236, 237, 16, 238, 45, 125, 182, 1159, 1160, 1161, 35, 1162, 1163, 806, 807, 808, 809, 339, 340, 341, 342, 49, 316, 244, 245, 246, 51, 247, 168, 170, 821, 822, 823, 824, 1164, 1165, 1166, 1167, 599, 623, 21, 1168, 1169, 1170, 1171, 84, 1172, 1173, 1174, 20, 1175, 1176, 720, 721, 722, 62, 723, 661, 662, 663, 334, 724, 725, 726, 727, 728, 729, 730, 731, 732, 733, 414, 415, 416, 172, 417, 418, 146, 419, 173, 1177, 754, 755, 756, 757, 758, 759, 760, 761, 1178, 774, 775, 776, 777, 778, 779, 780, 781, 782, 1539, 1540, 1541, 1542, 1543, 1544, 1545, 1546, 1547, 1548, 1582, 1583, 1567, 1568, 1569, 1570, 1571, 1572, 1573, 1584, 1585, 1586, 1587, 1588, 1589, 1590, 1591, 1592, 1593, 1594, 1595, 1596, 1574] (by decide +kernel) (by decide +kernel)) (goodIn_sub (fun _ h => List.mem_append_left _ (List.mem_append_left _ (List.mem_append_left _ (List.mem_append_left _ (List.mem_append_left _ (List.mem_append_left _ (List.mem_append_right _ h))))))) (by decide +kernel))) (goodIn_sub (fun _ h => List.mem_append_left _ (List.mem_append_left _ (List.mem_append_left _ (List.mem_append_right _ h)))) (by decide +kernel))
set_option maxRecDepth 20000 in
theorem gL_law_L_writeTrack : GoodIn wsL_law (va_wsS RL 360 yL_writeTrack wsL_writeTrack) := goodIn_app (goodIn_of _ (by decide +kernel)) ggL_law_L_writeTrack
set_option maxRecDepth 20000 in
theorem ggL_law_X10_writeTrack : GoodIn wsL_law wsX10_writeTrack := goodIn_ca (goodIn_r _ [1182, 1183, 256, 257, 258, 5, 259, 94, 552, 553, 554, 555, 215, 260, 261, 262, 263, 264, 265, 266, 267, 829, 830, 831, 832, 1184, 1185, 1186, 1187, 95, 891, 892, 893, 894, 742, 743, 744, 745, 677, 678, 679, 680, 708, 709, 710, 711, 432, 433, 434, 435, 436, 437, 438, 1549, 1550, 1551, 1552, 1553, 1554, 1555, 1556, 1557, 1558, 1559, 1560, 1561, 1562, 1563, 1564, 1565, 1566] (by decide +kernel) (by decide +kernel)) (goodIn_sub (fun _ h => List.mem_append_left _ (List.mem_append_left _ (List.mem_append_left _ (List.mem_append_left _ (List.mem_append_left _ (List.mem_append_left _ (List.mem_append_right _ h))))))) (by decide +kernel))
set_option maxRecDepth 20000 in
theorem gL_law_X10_writeTrack : GoodIn wsL_law (wsV RL 362 RX10 yX10_writeTrack wsX10_writeTrack) := goodIn_app (goodIn_of _ (by decide +kernel)) ggL_law_X10_writeTrack
set_option maxRecDepth 20000 in
theorem ggL_law_L_writeRow : GoodIn wsL_law wsL_writeRow := goodIn_ca (goodIn_ca (goodIn_r _ [1190, 224, 1191, 1192, 1193, 2, 1194, 37, 1158, 1044, 1045, 1046, 233, 234, 289, 290, 291, 1159, 1160, 1161, 35, 1162, 1163, 1195, 1196, 1197, 1198, 17, 659, 1199, 322, 323, 16, 324, 152, 1032, 326, 327, 328, 49, 243, 311, 329, 1168, 1169, 1170, 1171, 84, 1539, 1540, 1541, 1542, 1543, 1544, 1545, 1546, 1547, 1548, 1582, 1583, 1587, 1588, 1589, 1590, 1591, 1592, 1593, 1594, 1595, 1596, 1567, 1568, 1569, 1570, 1571, 1572, 1573] (by decide +kernel) (by decide +kernel)) (goodIn_sub (fun _ h => List.mem_append_left _ (List.mem_append_left _ (List.mem_append_left _ (List.mem_append_left _ (List.mem_append_left _ (List.mem_append_left _ (List.mem_append_right _ h))))))) (by decide +kernel))) (goodIn_sub (fun _ h => List.mem_append_left _ (List.mem_append_left _ (List.mem_append_left _ (List.mem_append_right _ h)))) (by decide +kernel))
set_option maxRecDepth 20000 in
theorem gL_law_L_writeRow : GoodIn wsL_law (va_wsS RL 363 yL_writeRow wsL_writeRow) := goodIn_app (goodIn_of _ (by decide +kernel)) ggL_law_L_writeRow
set_option maxRecDepth 20000 in
theorem ggL_law_X10_writeRow : GoodIn wsL_law wsX10_writeRow := goodIn_ca (goodIn_r _ [1203, 1183, 94, 201, 202, 5, 203, 552, 553, 554, 555, 215, 358, 359, 360, 361, 264, 265, 266, 267, 1184, 1185, 1186, 1187, 95, 1549, 1550, 1551, 1552, 1553, 1554, 1555, 1556, 1557, 1558, 1559, 1560, 1561, 1562, 1563, 1564, 1565, 1566] (by decide +kernel) (by decide +kernel)) (goodIn_sub (fun _ h => List.mem_append_left _ (List.mem_append_left _ (List.mem_append_left _ (List.mem_append_left _ (List.mem_append_left _ (List.mem_append_left _ (List.mem_append_right _ h))))))) (by decide +kernel))
set_option maxRecDepth 20000 in
theorem gL_law_X10_writeRow : GoodIn wsL_law (wsV RL 365 RX10 yX10_writeRow wsX10_writeRow) := goodIn_app (goodIn_of _ (by decide +kernel)) ggL_law_X10_writeRow
set_option maxRecDepth 20000 in
theorem ggL_law_L_outputAt : GoodIn wsL_law wsL_outputAt := goodIn_ca (goodIn_ca (goodIn_r _ [1206, 224, 1207, 1208, 1209, 2, 1210, 233, 234, 37, 1211, 1212, 1213, 35, 1214, 1163, 84, 1215, 1216, 1217, 1218, 1219, 1539, 1540, 1541, 1542, 1543, 1544, 1545, 1546, 1547, 1548, 1582, 1583] (by decide +kernel) (by decide +kernel)) (goodIn_sub (fun _ h => List.mem_append_left _ (List.mem_append_left _ (List.mem_append_left _ (List.mem_append_left _ (List.mem_append_left _ (List.mem_append_left _ (List.mem_append_right _ h))))))) (by decide +kernel))) (goodIn_sub (fun _ h => List.mem_append_left _ (List.mem_append_left _ (List.mem_append_left _ (List.mem_append_right _ h)))) (by decide +kernel))
set_option maxRecDepth 20000 in
theorem gL_law_L_outputAt : GoodIn wsL_law (va_wsS RL 366 yL_outputAt wsL_outputAt) := goodIn_app (goodIn_of _ (by decide +kernel)) ggL_law_L_outputAt
set_option maxRecDepth 20000 in
theorem ggL_law_X10_outputAt : GoodIn wsL_law wsX10_outputAt := goodIn_ca (goodIn_r _ [1223, 1183, 95, 201, 202, 5, 203, 552, 553, 554, 555, 215, 1549, 1550, 1551, 1552, 1553, 1554, 1555, 1556, 1557, 1558, 1559, 1560, 1561, 1562, 1563, 1564, 1565, 1566] (by decide +kernel) (by decide +kernel)) (goodIn_sub (fun _ h => List.mem_append_left _ (List.mem_append_left _ (List.mem_append_left _ (List.mem_append_left _ (List.mem_append_left _ (List.mem_append_left _ (List.mem_append_right _ h))))))) (by decide +kernel))
set_option maxRecDepth 20000 in
theorem gL_law_X10_outputAt : GoodIn wsL_law (wsV RL 368 RX10 yX10_outputAt wsX10_outputAt) := goodIn_app (goodIn_of _ (by decide +kernel)) ggL_law_X10_outputAt
set_option maxRecDepth 20000 in
theorem ggL_law_L_appendInput : GoodIn wsL_law wsL_appendInput := goodIn_ca (goodIn_ca (goodIn_ca (goodIn_r _ [1226, 103, 1227, 1228, 1229, 1230, 2, 1231, 109, 110, 1232, 1233, 32, 1234, 1158, 1235, 1236, 1237, 35, 1238, 1163, 84, 1168, 1169, 1170, 1171, 1539, 1540, 1541, 1542, 1543, 1544, 1545, 1546, 1547, 1548, 1577, 1578, 1579, 1580, 1581, 1582, 1583] (by decide +kernel) (by decide +kernel)) (goodIn_sub (fun _ h => List.mem_append_left _ (List.mem_append_left _ (List.mem_append_left _ (List.mem_append_left _ (List.mem_append_left _ (List.mem_append_left _ (List.mem_append_right _ h))))))) (by decide +kernel))) (goodIn_sub (fun _ h => List.mem_append_left _ (List.mem_append_left _ (List.mem_append_left _ (List.mem_append_left _ (List.mem_append_left _ (List.mem_append_right _ h)))))) (by decide +kernel))) (goodIn_sub (fun _ h => List.mem_append_right _ h) (by decide +kernel))
set_option maxRecDepth 20000 in
theorem gL_law_L_appendInput : GoodIn wsL_law (va_wsS RL 369 yL_appendInput wsL_appendInput) := goodIn_app (goodIn_of _ (by decide +kernel)) ggL_law_L_appendInput
set_option maxRecDepth 20000 in
theorem ggL_law_X10_appendInput : GoodIn wsL_law wsX10_appendInput := goodIn_ca (goodIn_r _ [1242, 1243, 215, 96, 201, 202, 5, 203, 1549, 1550, 1551, 1552, 1553, 1554, 1555, 1556, 1557, 1558, 1559, 1560, 1561, 1562, 1563, 1564, 1565, 1566] (by decide +kernel) (by decide +kernel)) (goodIn_sub (fun _ h => List.mem_append_left _ (List.mem_append_left _ (List.mem_append_left _ (List.mem_append_left _ (List.mem_append_left _ (List.mem_append_left _ (List.mem_append_right _ h))))))) (by decide +kernel))
set_option maxRecDepth 20000 in
theorem gL_law_X10_appendInput : GoodIn wsL_law (wsV RL 372 RX10 yX10_appendInput wsX10_appendInput) := goodIn_app (goodIn_of _ (by decide +kernel)) ggL_law_X10_appendInput
set_option maxRecDepth 20000 in
theorem ggL_law_L_execute : GoodIn wsL_law wsL_execute := goodIn_ca (goodIn_ca (goodIn_ca (goodIn_ca (goodIn_r _ [1246, 103, 1227, 104, 1247, 1248, 1249, 2, 1250, 109, 110, 32, 1234, 39, 26, 17, 1251, 1252, 25, 1253, 1254, 1255, 31, 1256, 1257, 1258, 1259, 77, 75, 1260, 1261, 1262, 1263, 1264, 1265, 1266, 1216, 1217, 35, 1218, 84, 1219, 1212, 1213, 1214, 1163, 1267, 1268, 1269, 1270, 1271, 1272, 1273, 1274, 1275, 1276, 1277, 1278, 1279, 1280, 1281, 1282, 1283, 1284, 1285, 1286, 1287, 1288, 1289, 1290, 1291, 1292, 1293, 1294, 1295, 1296, 1297, 1298, 1299, 1300, 1301, 1302, 1303, 1304, 1305, 1306, 1307, 1308, 1309, 1310, 1311, 1312, 1313, 1314, 1315, 1316, 1317, 1318, 1319, 1320, 1321, 1322, 1323, 1324, 1325, 1326, 1327, 1328, 1329, 1330, 1331, 1332, 1333, 1334, 1335, 1336, 1337, 1338, 1339, 1340, 1159, 1160, 1161, 1162, 1341, 149, 150, 16, 151, 45, 49, 152, 153, 154, 155, 156, 157, 158, 159, 47, 160, 161, 162, 163, 164, 165, 166, 51, 167, 168, 169, 170, 171, 172, 173, 174, 175, 176, 177, 1342, 1343, 1344, 1345, 1232, 1233, 1346, 119, 120, 1347, 1348, 1349, 79, 1350, 1351, 1352, 1353, 1354, 1355, 1356, 112, 113, 1357, 236, 237, 238, 125, 182, 287, 288, 289, 290, 291, 293, 294, 296, 297, 1358, 383, 384, 385, 243, 302, 515, 516, 1359, 1360, 1361, 1362, 1363, 115, 116, 117, 118, 121, 122, 123, 124, 126, 127, 128, 129, 12, 13, 130, 131, 132, 1364, 299, 300, 301, 303, 304, 305, 306, 307, 308, 309, 310, 311, 312, 313, 314, 315, 316, 244, 245, 246, 247, 317, 318, 319, 320, 321, 322, 323, 324, 325, 326, 327, 328, 329, 1365, 410, 411, 412, 413, 414, 415, 416, 417, 418, 146, 419, 1366, 466, 467, 468, 337, 1367, 489, 490, 491, 1368, 518, 519, 520, 1369, 133, 134, 135, 136, 137, 138, 38, 1370, 1371, 1372, 1373, 1374, 1375, 179, 180, 181, 183, 1376, 331, 332, 333, 334, 335, 336, 338, 339, 340, 341, 342, 1377, 522, 523, 524, 1378, 1379, 1380, 1381, 1382, 421, 422, 423, 1383, 447, 448, 449, 1384, 470, 471, 472, 1385, 493, 494, 495, 1386, 387, 388, 389, 139, 140, 141, 24, 142, 68, 143, 144, 145, 147, 148, 1539, 1540, 1541, 1542, 1543, 1544, 1545, 1546, 1547, 1548, 1577, 1578, 1579, 1580, 1581, 1582, 1583, 1597, 1598, 1599, 1600, 1601, 1602, 1603, 1607, 1608, 1567, 1568, 1569, 1570, 1571, 1572, 1573, 1584, 1585, 1586, 1587, 1588, 1589, 1590, 1591, 1592, 1593, 1594, 1595, 1596, 1604, 1605, 1606, 1575, 1576] (by decide +kernel) (by decide +kernel)) (goodIn_sub (fun _ h => List.mem_append_left _ (List.mem_append_left _ (List.mem_append_left _ (List.mem_append_left _ (List.mem_append_left _ (List.mem_append_left _ (List.mem_append_right _ h))))))) (by decide +kernel))) (goodIn_sub (fun _ h => List.mem_append_left _ (List.mem_append_left _ (List.mem_append_left _ (List.mem_append_left _ (List.mem_append_left _ (List.mem_append_right _ h)))))) (by decide +kernel))) (goodIn_sub (fun _ h => List.mem_append_right _ h) (by decide +kernel))) (goodIn_sub (fun _ h => List.mem_append_left _ (List.mem_append_left _ (List.mem_append_left _ (List.mem_append_left _ (List.mem_append_right _ h))))) (by decide +kernel))
set_option maxRecDepth 20000 in
theorem gL_law_L_execute : GoodIn wsL_law (va_wsS RL 373 yL_execute wsL_execute) := goodIn_app (goodIn_of _ (by decide +kernel)) ggL_law_L_execute
set_option maxRecDepth 20000 in
theorem ggL_law_X10_execute : GoodIn wsL_law wsX10_execute := goodIn_ca (goodIn_r _ [1390, 1243, 1391, 97, 215, 1392, 208, 210, 209, 1393, 200, 1394, 1395, 1396, 5, 1397, 1398, 1399, 1400, 1401, 1402, 98, 1403, 1404, 1405, 1406, 96, 1407, 1408, 1409, 1410, 201, 202, 203, 1411, 1412, 1413, 1414, 1415, 1416, 1417, 1418, 1419, 1420, 1421, 1422, 188, 189, 190, 191, 192, 193, 194, 195, 94, 1423, 1424, 1425, 1426, 196, 197, 198, 199, 204, 205, 206, 207, 347, 348, 349, 350, 256, 257, 258, 259, 351, 352, 353, 354, 355, 356, 357, 264, 265, 266, 267, 358, 359, 360, 361, 362, 363, 364, 365, 366, 367, 368, 369, 272, 273, 274, 275, 428, 429, 430, 431, 398, 399, 400, 401, 432, 433, 434, 435, 436, 437, 438, 454, 455, 456, 457, 477, 478, 479, 480, 500, 501, 502, 503, 394, 395, 396, 397, 268, 269, 270, 271, 529, 530, 531, 532, 533, 534, 535, 536, 211, 212, 213, 214, 216, 1549, 1550, 1551, 1552, 1553, 1554, 1555, 1556, 1557, 1558, 1559, 1560, 1561, 1562, 1563, 1564, 1565, 1566] (by decide +kernel) (by decide +kernel)) (goodIn_sub (fun _ h => List.mem_append_left _ (List.mem_append_left _ (List.mem_append_left _ (List.mem_append_left _ (List.mem_append_left _ (List.mem_append_left _ (List.mem_append_right _ h))))))) (by decide +kernel))
set_option maxRecDepth 20000 in
theorem gL_law_X10_execute : GoodIn wsL_law (wsV RL 376 RX10 yX10_execute wsX10_execute) := goodIn_app (goodIn_of _ (by decide +kernel)) ggL_law_X10_execute
set_option maxRecDepth 20000 in
theorem ggL_law_L_syntaxErrorOffset : GoodIn wsL_law wsL_syntaxErrorOffset := goodIn_ca (goodIn_ca (goodIn_r _ [1429, 654, 1430, 1431, 1432, 2, 1433, 667, 668, 39, 1539, 1540, 1541, 1542, 1543, 1544, 1545, 1546, 1547, 1548] (by decide +kernel) (by decide +kernel)) (goodIn_sub (fun _ h => List.mem_append_left _ (List.mem_append_left _ (List.mem_append_left _ (List.mem_append_left _ (List.mem_append_left _ (List.mem_append_left _ (List.mem_append_right _ h))))))) (by decide +kernel))) (goodIn_sub (fun _ h => List.mem_append_left _ (List.mem_append_left _ (List.mem_append_right _ h))) (by decide +kernel))
set_option maxRecDepth 20000 in
theorem gL_law_L_syntaxErrorOffset : GoodIn wsL_law (va_wsS RL 377 yL_syntaxErrorOffset wsL_syntaxErrorOffset) := goodIn_app (goodIn_of _ (by decide +kernel)) ggL_law_L_syntaxErrorOffset
set_option maxRecDepth 20000 in
theorem ggL_law_X10_syntaxErrorOffset : GoodIn wsL_law wsX10_syntaxErrorOffset := goodIn_r _ [1437, 97, 552, 553, 554, 5, 555, 215, 1549, 1550, 1551, 1552, 1553, 1554, 1555, 1556, 1557, 1558, 1559, 1560, 1561, 1562, 1563, 1564, 1565, 1566] (by decide +kernel) (by decide +kernel)
set_option maxRecDepth 20000 in
theorem gL_law_X10_syntaxErrorOffset : GoodIn wsL_law (wsV RL 379 RX10 yX10_syntaxErrorOffset wsX10_syntaxErrorOffset) := goodIn_app (goodIn_of _ (by decide +kernel)) ggL_law_X10_syntaxErrorOffset
set_option maxRecDepth 20000 in
theorem ggL_law_L_rejectionReason : GoodIn wsL_law wsL_rejectionReason := goodIn_ca (goodIn_ca (goodIn_r _ [1440, 654, 1441, 1442, 1443, 2, 1444, 38, 1445, 1446, 1447, 1448, 667, 668, 1539, 1540, 1541, 1542, 1543, 1544, 1545, 1546, 1547, 1548, 1604, 1605, 1606] (by decide +kernel) (by decide +kernel)) (goodIn_sub (fun _ h => List.mem_append_left _ (List.mem_append_left _ (List.mem_append_left _ (List.mem_append_left _ (List.mem_append_left _ (List.mem_append_left _ (List.mem_append_right _ h))))))) (by decide +kernel))) (goodIn_sub (fun _ h => List.mem_append_left _ (List.mem_append_left _ (List.mem_append_right _ h))) (by decide +kernel))
set_option maxRecDepth 20000 in
theorem gL_law_L_rejectionReason : GoodIn wsL_law (va_wsS RL 380 yL_rejectionReason wsL_rejectionReason) := goodIn_app (goodIn_of _ (by decide +kernel)) ggL_law_L_rejectionReason
set_option maxRecDepth 20000 in
theorem ggL_law_X10_rejectionReason : GoodIn wsL_law wsX10_rejectionReason := goodIn_r _ [1452, 208, 552, 553, 554, 5, 555, 215, 1549, 1550, 1551, 1552, 1553, 1554, 1555, 1556, 1557, 1558, 1559, 1560, 1561, 1562, 1563, 1564, 1565, 1566] (by decide +kernel) (by decide +kernel)
set_option maxRecDepth 20000 in
theorem gL_law_X10_rejectionReason : GoodIn wsL_law (wsV RL 382 RX10 yX10_rejectionReason wsX10_rejectionReason) := goodIn_app (goodIn_of _ (by decide +kernel)) ggL_law_X10_rejectionReason
set_option maxRecDepth 20000 in
theorem ggL_law_L_rejectionDetail : GoodIn wsL_law wsL_rejectionDetail := goodIn_ca (goodIn_ca (goodIn_r _ [1455, 654, 1456, 1457, 1458, 2, 1459, 38, 1460, 1446, 1447, 1448, 667, 668, 1539, 1540, 1541, 1542, 1543, 1544, 1545, 1546, 1547, 1548, 1604, 1605, 1606] (by decide +kernel) (by decide +kernel)) (goodIn_sub (fun _ h => List.mem_append_left _ (List.mem_append_left _ (List.mem_append_left _ (List.mem_append_left _ (List.mem_append_left _ (List.mem_append_left _ (List.mem_append_right _ h))))))) (by decide +kernel))) (goodIn_sub (fun _ h => List.mem_append_left _ (List.mem_append_left _ (List.mem_append_right _ h))) (by decide +kernel))
set_option maxRecDepth 20000 in
theorem gL_law_L_rejectionDetail : GoodIn wsL_law (va_wsS RL 383 yL_rejectionDetail wsL_rejectionDetail) := goodIn_app (goodIn_of _ (by decide +kernel)) ggL_law_L_rejectionDetail
set_option maxRecDepth 20000 in
theorem ggL_law_X10_rejectionDetail : GoodIn wsL_law wsX10_rejectionDetail := goodIn_r _ [1464, 208, 209, 552, 553, 554, 5, 555, 215, 1549, 1550, 1551, 1552, 1553, 1554, 1555, 1556, 1557, 1558, 1559, 1560, 1561, 1562, 1563, 1564, 1565, 1566] (by decide +kernel) (by decide +kernel)
set_option maxRecDepth 20000 in
theorem gL_law_X10_rejectionDetail : GoodIn wsL_law (wsV RL 385 RX10 yX10_rejectionDetail wsX10_rejectionDetail) := goodIn_app (goodIn_of _ (by decide +kernel)) ggL_law_X10_rejectionDetail
set_option maxRecDepth 20000 in
theorem ggL_law_L_causeReason : GoodIn wsL_law wsL_causeReason := goodIn_ca (goodIn_ca (goodIn_r _ [1467, 654, 1468, 1469, 1470, 2, 1471, 38, 1472, 1445, 1446, 1447, 1448, 667, 668, 1539, 1540, 1541, 1542, 1543, 1544, 1545, 1546, 1547, 1548, 1604, 1605, 1606] (by decide +kernel) (by decide +kernel)) (goodIn_sub (fun _ h => List.mem_append_left _ (List.mem_append_left _ (List.mem_append_left _ (List.mem_append_left _ (List.mem_append_left _ (List.mem_append_left _ (List.mem_append_right _ h))))))) (by decide +kernel))) (goodIn_sub (fun _ h => List.mem_append_left _ (List.mem_append_left _ (List.mem_append_right _ h))) (by decide +kernel))
set_option maxRecDepth 20000 in
theorem gL_law_L_causeReason : GoodIn wsL_law (va_wsS RL 386 yL_causeReason wsL_causeReason) := goodIn_app (goodIn_of _ (by decide +kernel)) ggL_law_L_causeReason
set_option maxRecDepth 20000 in
theorem ggL_law_X10_causeReason : GoodIn wsL_law wsX10_causeReason := goodIn_r _ [1476, 210, 552, 553, 554, 5, 555, 215, 1549, 1550, 1551, 1552, 1553, 1554, 1555, 1556, 1557, 1558, 1559, 1560, 1561, 1562, 1563, 1564, 1565, 1566] (by decide +kernel) (by decide +kernel)
set_option maxRecDepth 20000 in
theorem gL_law_X10_causeReason : GoodIn wsL_law (wsV RL 388 RX10 yX10_causeReason wsX10_causeReason) := goodIn_app (goodIn_of _ (by decide +kernel)) ggL_law_X10_causeReason
set_option maxRecDepth 20000 in
theorem ggL_law_L_causeDetail : GoodIn wsL_law wsL_causeDetail := goodIn_ca (goodIn_ca (goodIn_r _ [1479, 654, 1480, 1481, 1482, 2, 1483, 38, 1472, 1460, 1446, 1447, 1448, 667, 668, 1539, 1540, 1541, 1542, 1543, 1544, 1545, 1546, 1547, 1548, 1604, 1605, 1606] (by decide +kernel) (by decide +kernel)) (goodIn_sub (fun _ h => List.mem_append_left _ (List.mem_append_left _ (List.mem_append_left _ (List.mem_append_left _ (List.mem_append_left _ (List.mem_append_left _ (List.mem_append_right _ h))))))) (by decide +kernel))) (goodIn_sub (fun _ h => List.mem_append_left _ (List.mem_append_left _ (List.mem_append_right _ h))) (by decide +kernel))
set_option maxRecDepth 20000 in
theorem gL_law_L_causeDetail : GoodIn wsL_law (va_wsS RL 389 yL_causeDetail wsL_causeDetail) := goodIn_app (goodIn_of _ (by decide +kernel)) ggL_law_L_causeDetail
set_option maxRecDepth 20000 in
theorem ggL_law_X10_causeDetail : GoodIn wsL_law wsX10_causeDetail := goodIn_r _ [1487, 210, 1393, 552, 553, 554, 5, 555, 215, 1549, 1550, 1551, 1552, 1553, 1554, 1555, 1556, 1557, 1558, 1559, 1560, 1561, 1562, 1563, 1564, 1565, 1566] (by decide +kernel) (by decide +kernel)
set_option maxRecDepth 20000 in
theorem gL_law_X10_causeDetail : GoodIn wsL_law (wsV RL 391 RX10 yX10_causeDetail wsX10_causeDetail) := goodIn_app (goodIn_of _ (by decide +kernel)) ggL_law_X10_causeDetail
set_option maxRecDepth 20000 in
theorem ggL_law_L_undo : GoodIn wsL_law wsL_undo := goodIn_ca (goodIn_ca (goodIn_r _ [1490, 1227, 1491, 1492, 1493, 2, 1494, 1232, 1233, 25, 1495, 17, 1496, 1497, 1498, 24, 1499, 68, 143, 1500, 1501, 146, 1502, 148, 149, 150, 16, 151, 45, 49, 152, 153, 154, 155, 156, 157, 158, 159, 47, 160, 161, 162, 163, 164, 165, 166, 51, 167, 168, 169, 170, 171, 172, 173, 174, 175, 176, 177, 1539, 1540, 1541, 1542, 1543, 1544, 1545, 1546, 1547, 1548, 1575, 1576, 1567, 1568, 1569, 1570, 1571, 1572, 1573, 1584, 1585, 1586, 1587, 1588, 1589, 1590, 1591, 1592, 1593, 1594, 1595, 1596] (by decide +kernel) (by decide +kernel)) (goodIn_sub (fun _ h => List.mem_append_left _ (List.mem_append_left _ (List.mem_append_left _ (List.mem_append_left _ (List.mem_append_left _ (List.mem_append_left _ (List.mem_append_right _ h))))))) (by decide +kernel))) (goodIn_sub (fun _ h => List.mem_append_right _ h) (by decide +kernel))
set_option maxRecDepth 20000 in
theorem gL_law_L_undo : GoodIn wsL_law (va_wsS RL 392 yL_undo wsL_undo) := goodIn_app (goodIn_of _ (by decide +kernel)) ggL_law_L_undo
set_option maxRecDepth 20000 in
theorem ggL_law_X10_undo : GoodIn wsL_law wsX10_undo := goodIn_ca (goodIn_r _ [1506, 216, 552, 553, 554, 5, 555, 215, 192, 193, 194, 195, 94, 1549, 1550, 1551, 1552, 1553, 1554, 1555, 1556, 1557, 1558, 1559, 1560, 1561, 1562, 1563, 1564, 1565, 1566] (by decide +kernel) (by decide +kernel)) (goodIn_sub (fun _ h => List.mem_append_left _ (List.mem_append_left _ (List.mem_append_left _ (List.mem_append_left _ (List.mem_append_left _ (List.mem_append_left _ (List.mem_append_right _ h))))))) (by decide +kernel))
set_option maxRecDepth 20000 in
theorem gL_law_X10_undo : GoodIn wsL_law (wsV RL 394 RX10 yX10_undo wsX10_undo) := goodIn_app (goodIn_of _ (by decide +kernel)) ggL_law_X10_undo
set_option maxRecDepth 20000 in
theorem ggL_law_X9_undoCount : GoodIn wsL_law wsX9_undoCount := goodIn_r _ [1510, 25, 1495, 1539, 1540, 1541, 1542, 1543, 1544, 1545, 1546, 1547, 1548, 1575, 1576] (by decide +kernel) (by decide +kernel)
set_option maxRecDepth 20000 in
theorem gL_law_X9_undoCount : GoodIn wsL_law (wsV RL 395 RX9 yX9_undoCount wsX9_undoCount) := goodIn_app (goodIn_of _ (by decide +kernel)) ggL_law_X9_undoCount
set_option maxRecDepth 20000 in
theorem ggL_law_X10_undoCount : GoodIn wsL_law wsX10_undoCount := goodIn_r _ [1514, 215, 216, 1549, 1550, 1551, 1552, 1553, 1554, 1555, 1556, 1557, 1558, 1559, 1560, 1561, 1562, 1563, 1564, 1565, 1566] (by decide +kernel) (by decide +kernel)
set_option maxRecDepth 20000 in
theorem gL_law_X10_undoCount : GoodIn wsL_law (wsV RL 398 RX10 yX10_undoCount wsX10_undoCount) := goodIn_app (goodIn_of _ (by decide +kernel)) ggL_law_X10_undoCount
set_option maxRecDepth 20000 in
theorem ggL_law_X9_saveSnapshot : GoodIn wsL_law wsX9_saveSnapshot := goodIn_r _ [1518, 27, 17, 28, 1341, 149, 150, 16, 151, 45, 49, 152, 153, 154, 155, 156, 157, 158, 159, 47, 160, 161, 162, 163, 164, 165, 166, 51, 167, 168, 169, 170, 171, 172, 173, 174, 175, 176, 177, 1085, 304, 305, 306, 307, 308, 309, 310, 243, 311, 1539, 1540, 1541, 1542, 1543, 1544, 1545, 1546, 1547, 1548, 1567, 1568, 1569, 1570, 1571, 1572, 1573, 1584, 1585, 1586, 1587, 1588, 1589, 1590, 1591, 1592, 1593, 1594, 1595, 1596] (by decide +kernel) (by decide +kernel)
set_option maxRecDepth 20000 in
theorem gL_law_X9_saveSnapshot : GoodIn wsL_law (wsV RL 399 RX9 yX9_saveSnapshot wsX9_saveSnapshot) := goodIn_app (goodIn_of _ (by decide +kernel)) ggL_law_X9_saveSnapshot
set_option maxRecDepth 20000 in
theorem ggL_law_X10_saveSnapshot : GoodIn wsL_law wsX10_saveSnapshot := goodIn_ca (goodIn_r _ [1522, 215, 1523, 94, 192, 193, 194, 5, 195, 1549, 1550, 1551, 1552, 1553, 1554, 1555, 1556, 1557, 1558, 1559, 1560, 1561, 1562, 1563, 1564, 1565, 1566] (by decide +kernel) (by decide +kernel)) (goodIn_sub (fun _ h => List.mem_append_left _ (List.mem_append_left _ (List.mem_append_left _ (List.mem_append_left _ (List.mem_append_left _ (List.mem_append_left _ (List.mem_append_right _ h))))))) (by decide +kernel))
set_option maxRecDepth 20000 in
theorem gL_law_X10_saveSnapshot : GoodIn wsL_law (wsV RL 402 RX10 yX10_saveSnapshot wsX10_saveSnapshot) := goodIn_app (goodIn_of _ (by decide +kernel)) ggL_law_X10_saveSnapshot
set_option maxRecDepth 20000 in
theorem ggL_law_L_restoreSnapshot : GoodIn wsL_law wsL_restoreSnapshot := goodIn_ca (goodIn_ca (goodIn_r _ [1526, 1227, 1527, 1528, 1529, 2, 1530, 1232, 1233, 28, 17, 27, 25, 1341, 149, 150, 16, 151, 45, 49, 152, 153, 154, 155, 156, 157, 158, 159, 47, 160, 161, 162, 163, 164, 165, 166, 51, 167, 168, 169, 170, 171, 172, 173, 174, 175, 176, 177, 1531, 1532, 1533, 24, 1534, 143, 1085, 304, 305, 306, 307, 308, 309, 310, 243, 311, 1539, 1540, 1541, 1542, 1543, 1544, 1545, 1546, 1547, 1548, 1567, 1568, 1569, 1570, 1571, 1572, 1573, 1584, 1585, 1586, 1587, 1588, 1589, 1590, 1591, 1592, 1593, 1594, 1595, 1596, 1575, 1576] (by decide +kernel) (by decide +kernel)) (goodIn_sub (fun _ h => List.mem_append_left _ (List.mem_append_left _ (List.mem_append_left _ (List.mem_append_left _ (List.mem_append_left _ (List.mem_append_left _ (List.mem_append_right _ h))))))) (by decide +kernel))) (goodIn_sub (fun _ h => List.mem_append_right _ h) (by decide +kernel))
set_option maxRecDepth 20000 in
theorem gL_law_L_restoreSnapshot : GoodIn wsL_law (va_wsS RL 403 yL_restoreSnapshot wsL_restoreSnapshot) := goodIn_app (goodIn_of _ (by decide +kernel)) ggL_law_L_restoreSnapshot
set_option maxRecDepth 20000 in
theorem ggL_law_X10_restoreSnapshot : GoodIn wsL_law wsX10_restoreSnapshot := goodIn_ca (goodIn_r _ [1538, 1523, 216, 94, 552, 553, 554, 5, 555, 215, 192, 193, 194, 195, 1549, 1550, 1551, 1552, 1553, 1554, 1555, 1556, 1557, 1558, 1559, 1560, 1561, 1562, 1563, 1564, 1565, 1566] (by decide +kernel) (by decide +kernel)) (goodIn_sub (fun _ h => List.mem_append_left _ (List.mem_append_left _ (List.mem_append_left _ (List.mem_append_left _ (List.mem_append_left _ (List.mem_append_left _ (List.mem_append_right _ h))))))) (by decide +kernel))
set_option maxRecDepth 20000 in
theorem gL_law_X10_restoreSnapshot : GoodIn wsL_law (wsV RL 405 RX10 yX10_restoreSnapshot wsX10_restoreSnapshot) := goodIn_app (goodIn_of _ (by decide +kernel)) ggL_law_X10_restoreSnapshot
theorem dL_law_0 : decode cL_law 0 = .ok (.new 8, 3) := by decide +kernel
theorem dL_law_3 : decode cL_law 3 = .ok (.dup, 1) := by decide +kernel
theorem dL_law_4 : decode cL_law 4 = .ok (.invokespecial 194, 3) := by decide +kernel
theorem dL_law_7 : decode cL_law 7 = .ok (.astore_n 1, 1) := by decide +kernel
theorem dL_law_8 : decode cL_law 8 = .ok (.new 195, 3) := by decide +kernel
theorem dL_law_11 : decode cL_law 11 = .ok (.dup, 1) := by decide +kernel
theorem dL_law_12 : decode cL_law 12 = .ok (.invokespecial 197, 3) := by decide +kernel
theorem dL_law_15 : decode cL_law 15 = .ok (.astore_n 2, 1) := by decide +kernel
theorem dL_law_16 : decode cL_law 16 = .ok (.iconst 1, 1) := by decide +kernel
theorem dL_law_17 : decode cL_law 17 = .ok (.newarray .long, 2) := by decide +kernel
theorem dL_law_19 : decode cL_law 19 = .ok (.astore_n 3, 1) := by decide +kernel
theorem dL_law_20 : decode cL_law 20 = .ok (.iconst 1, 1) := by decide +kernel
theorem dL_law_21 : decode cL_law 21 = .ok (.newarray .double, 2) := by decide +kernel
theorem dL_law_23 : decode cL_law 23 = .ok (.astore 4, 2) := by decide +kernel
theorem dL_law_25 : decode cL_law 25 = .ok (.iconst 0, 1) := by decide +kernel
theorem dL_law_26 : decode cL_law 26 = .ok (.istore 5, 2) := by decide +kernel
theorem dL_law_28 : decode cL_law 28 = .ok (.iload 5, 2) := by decide +kernel
theorem dL_law_30 : decode cL_law 30 = .ok (.aload_n 0, 1) := by decide +kernel
theorem dL_law_31 : decode cL_law 31 = .ok (.arraylength, 1) := by decide +kernel
theorem dL_law_32 : decode cL_law 32 = .ok (.bipush 7, 2) := by decide +kernel
theorem dL_law_34 : decode cL_law 34 = .ok (.isub, 1) := by decide +kernel
theorem dL_law_35 : decode cL_law 35 = .ok (.if_icmp .gt 3588, 3) := by decide +kernel
theorem dL_law_38 : decode cL_law 38 = .ok (.aload_n 0, 1) := by decide +kernel
theorem dL_law_39 : decode cL_law 39 = .ok (.iload 5, 2) := by decide +kernel
theorem dL_law_41 : decode cL_law 41 = .ok (.iaload, 1) := by decide +kernel
theorem dL_law_42 : decode cL_law 42 = .ok (.bipush 63, 2) := by decide +kernel
theorem dL_law_44 : decode cL_law 44 = .ok (.iand, 1) := by decide +kernel
theorem dL_law_45 : decode cL_law 45 = .ok (.tableswitch 3572 0 61 #[263, 319, 375, 509, 565, 645, 708, 764, 820, 876, 932, 988, 1044, 1100, 1163, 1219, 1275, 1352, 1415, 1471, 1527, 1583, 1646, 1709, 1772, 1828, 1884, 1952, 2008, 2064, 2120, 2176, 2232, 2309, 2389, 2476, 2532, 2588, 2644, 2712, 2768, 2781, 2837, 2850, 2863, 2876, 2889, 2955, 2968, 3024, 3080, 3136, 3194, 3238, 3282, 3326, 3370, 3414, 3458, 3502, 3515, 3528], 263) := by decide +kernel
theorem dL_law_308 : decode cL_law 308 = .ok (.aload_n 1, 1) := by decide +kernel
theorem dL_law_309 : decode cL_law 309 = .ok (.aload_n 0, 1) := by decide +kernel
theorem dL_law_310 : decode cL_law 310 = .ok (.iload 5, 2) := by decide +kernel
theorem dL_law_312 : decode cL_law 312 = .ok (.iconst 1, 1) := by decide +kernel
theorem dL_law_313 : decode cL_law 313 = .ok (.iadd, 1) := by decide +kernel
theorem dL_law_314 : decode cL_law 314 = .ok (.iaload, 1) := by decide +kernel
theorem dL_law_315 : decode cL_law 315 = .ok (.aload_n 3, 1) := by decide +kernel
theorem dL_law_316 : decode cL_law 316 = .ok (.invokestatic 198, 3) := by decide +kernel
theorem dL_law_319 : decode cL_law 319 = .ok (.istore 6, 2) := by decide +kernel
theorem dL_law_321 : decode cL_law 321 = .ok (.aload_n 2, 1) := by decide +kernel
theorem dL_law_322 : decode cL_law 322 = .ok (.aload_n 0, 1) := by decide +kernel
theorem dL_law_323 : decode cL_law 323 = .ok (.iload 5, 2) := by decide +kernel
theorem dL_law_325 : decode cL_law 325 = .ok (.iconst 1, 1) := by decide +kernel
theorem dL_law_326 : decode cL_law 326 = .ok (.iadd, 1) := by decide +kernel
theorem dL_law_327 : decode cL_law 327 = .ok (.iaload, 1) := by decide +kernel
theorem dL_law_328 : decode cL_law 328 = .ok (.invokevirtual 203, 3) := by decide +kernel
theorem dL_law_331 : decode cL_law 331 = .ok (.istore 7, 2) := by decide +kernel
theorem dL_law_333 : decode cL_law 333 = .ok (.aload_n 2, 1) := by decide +kernel
theorem dL_law_334 : decode cL_law 334 = .ok (.invokevirtual 204, 3) := by decide +kernel
theorem dL_law_337 : decode cL_law 337 = .ok (.iload 6, 2) := by decide +kernel
theorem dL_law_339 : decode cL_law 339 = .ok (.if_icmp .eq 5, 3) := by decide +kernel
theorem dL_law_342 : decode cL_law 342 = .ok (.iconst 0, 1) := by decide +kernel
theorem dL_law_343 : decode cL_law 343 = .ok (.ireturn, 1) := by decide +kernel
theorem dL_law_344 : decode cL_law 344 = .ok (.iload 6, 2) := by decide +kernel
theorem dL_law_346 : decode cL_law 346 = .ok (.ifCond .ne 15, 3) := by decide +kernel
theorem dL_law_349 : decode cL_law 349 = .ok (.aload_n 3, 1) := by decide +kernel
theorem dL_law_350 : decode cL_law 350 = .ok (.iconst 0, 1) := by decide +kernel
theorem dL_law_351 : decode cL_law 351 = .ok (.laload, 1) := by decide +kernel
theorem dL_law_352 : decode cL_law 352 = .ok (.iload 7, 2) := by decide +kernel
theorem dL_law_354 : decode cL_law 354 = .ok (.i2l, 1) := by decide +kernel
theorem dL_law_355 : decode cL_law 355 = .ok (.lcmp, 1) := by decide +kernel
theorem dL_law_356 : decode cL_law 356 = .ok (.ifCond .eq 5, 3) := by decide +kernel
theorem dL_law_359 : decode cL_law 359 = .ok (.iconst 0, 1) := by decide +kernel
theorem dL_law_360 : decode cL_law 360 = .ok (.ireturn, 1) := by decide +kernel
theorem dL_law_361 : decode cL_law 361 = .ok (.goto 3256, 3) := by decide +kernel
theorem dL_law_364 : decode cL_law 364 = .ok (.aload_n 1, 1) := by decide +kernel
theorem dL_law_365 : decode cL_law 365 = .ok (.aload_n 0, 1) := by decide +kernel
theorem dL_law_366 : decode cL_law 366 = .ok (.iload 5, 2) := by decide +kernel
theorem dL_law_368 : decode cL_law 368 = .ok (.iconst 1, 1) := by decide +kernel
theorem dL_law_369 : decode cL_law 369 = .ok (.iadd, 1) := by decide +kernel
theorem dL_law_370 : decode cL_law 370 = .ok (.iaload, 1) := by decide +kernel
theorem dL_law_371 : decode cL_law 371 = .ok (.aload_n 3, 1) := by decide +kernel
theorem dL_law_372 : decode cL_law 372 = .ok (.invokestatic 207, 3) := by decide +kernel
theorem dL_law_375 : decode cL_law 375 = .ok (.istore 6, 2) := by decide +kernel
theorem dL_law_377 : decode cL_law 377 = .ok (.aload_n 2, 1) := by decide +kernel
theorem dL_law_378 : decode cL_law 378 = .ok (.aload_n 0, 1) := by decide +kernel
theorem dL_law_379 : decode cL_law 379 = .ok (.iload 5, 2) := by decide +kernel
theorem dL_law_381 : decode cL_law 381 = .ok (.iconst 1, 1) := by decide +kernel
theorem dL_law_382 : decode cL_law 382 = .ok (.iadd, 1) := by decide +kernel
theorem dL_law_383 : decode cL_law 383 = .ok (.iaload, 1) := by decide +kernel
theorem dL_law_384 : decode cL_law 384 = .ok (.invokevirtual 209, 3) := by decide +kernel
theorem dL_law_387 : decode cL_law 387 = .ok (.istore 7, 2) := by decide +kernel
theorem dL_law_389 : decode cL_law 389 = .ok (.aload_n 2, 1) := by decide +kernel
theorem dL_law_390 : decode cL_law 390 = .ok (.invokevirtual 204, 3) := by decide +kernel
theorem dL_law_393 : decode cL_law 393 = .ok (.iload 6, 2) := by decide +kernel
theorem dL_law_395 : decode cL_law 395 = .ok (.if_icmp .eq 5, 3) := by decide +kernel
theorem dL_law_398 : decode cL_law 398 = .ok (.iconst 0, 1) := by decide +kernel
theorem dL_law_399 : decode cL_law 399 = .ok (.ireturn, 1) := by decide +kernel
theorem dL_law_400 : decode cL_law 400 = .ok (.iload 6, 2) := by decide +kernel
theorem dL_law_402 : decode cL_law 402 = .ok (.ifCond .ne 15, 3) := by decide +kernel
theorem dL_law_405 : decode cL_law 405 = .ok (.aload_n 3, 1) := by decide +kernel
theorem dL_law_406 : decode cL_law 406 = .ok (.iconst 0, 1) := by decide +kernel
theorem dL_law_407 : decode cL_law 407 = .ok (.laload, 1) := by decide +kernel
theorem dL_law_408 : decode cL_law 408 = .ok (.iload 7, 2) := by decide +kernel
theorem dL_law_410 : decode cL_law 410 = .ok (.i2l, 1) := by decide +kernel
theorem dL_law_411 : decode cL_law 411 = .ok (.lcmp, 1) := by decide +kernel
theorem dL_law_412 : decode cL_law 412 = .ok (.ifCond .eq 5, 3) := by decide +kernel
theorem dL_law_415 : decode cL_law 415 = .ok (.iconst 0, 1) := by decide +kernel
theorem dL_law_416 : decode cL_law 416 = .ok (.ireturn, 1) := by decide +kernel
theorem dL_law_417 : decode cL_law 417 = .ok (.goto 3200, 3) := by decide +kernel
theorem dL_law_420 : decode cL_law 420 = .ok (.aload_n 1, 1) := by decide +kernel
theorem dL_law_421 : decode cL_law 421 = .ok (.aload_n 0, 1) := by decide +kernel
theorem dL_law_422 : decode cL_law 422 = .ok (.iload 5, 2) := by decide +kernel
theorem dL_law_424 : decode cL_law 424 = .ok (.iconst 1, 1) := by decide +kernel
theorem dL_law_425 : decode cL_law 425 = .ok (.iadd, 1) := by decide +kernel
theorem dL_law_426 : decode cL_law 426 = .ok (.iaload, 1) := by decide +kernel
theorem dL_law_427 : decode cL_law 427 = .ok (.aload_n 0, 1) := by decide +kernel
theorem dL_law_428 : decode cL_law 428 = .ok (.iload 5, 2) := by decide +kernel
theorem dL_law_430 : decode cL_law 430 = .ok (.iconst 2, 1) := by decide +kernel
theorem dL_law_431 : decode cL_law 431 = .ok (.iadd, 1) := by decide +kernel
theorem dL_law_432 : decode cL_law 432 = .ok (.iaload, 1) := by decide +kernel
theorem dL_law_433 : decode cL_law 433 = .ok (.aload_n 0, 1) := by decide +kernel
theorem dL_law_434 : decode cL_law 434 = .ok (.iload 5, 2) := by decide +kernel
theorem dL_law_436 : decode cL_law 436 = .ok (.iconst 3, 1) := by decide +kernel
theorem dL_law_437 : decode cL_law 437 = .ok (.iadd, 1) := by decide +kernel
theorem dL_law_438 : decode cL_law 438 = .ok (.iaload, 1) := by decide +kernel
theorem dL_law_439 : decode cL_law 439 = .ok (.aload_n 0, 1) := by decide +kernel
theorem dL_law_440 : decode cL_law 440 = .ok (.iload 5, 2) := by decide +kernel
theorem dL_law_442 : decode cL_law 442 = .ok (.iconst 4, 1) := by decide +kernel
theorem dL_law_443 : decode cL_law 443 = .ok (.iadd, 1) := by decide +kernel
theorem dL_law_444 : decode cL_law 444 = .ok (.iaload, 1) := by decide +kernel
theorem dL_law_445 : decode cL_law 445 = .ok (.aload_n 0, 1) := by decide +kernel
theorem dL_law_446 : decode cL_law 446 = .ok (.iload 5, 2) := by decide +kernel
theorem dL_law_448 : decode cL_law 448 = .ok (.iconst 5, 1) := by decide +kernel
theorem dL_law_449 : decode cL_law 449 = .ok (.iadd, 1) := by decide +kernel
theorem dL_law_450 : decode cL_law 450 = .ok (.iaload, 1) := by decide +kernel
theorem dL_law_451 : decode cL_law 451 = .ok (.ifCond .eq 7, 3) := by decide +kernel
theorem dL_law_454 : decode cL_law 454 = .ok (.iconst 1, 1) := by decide +kernel
theorem dL_law_455 : decode cL_law 455 = .ok (.goto 4, 3) := by decide +kernel
theorem dL_law_458 : decode cL_law 458 = .ok (.iconst 0, 1) := by decide +kernel
theorem dL_law_459 : decode cL_law 459 = .ok (.aload_n 0, 1) := by decide +kernel
theorem dL_law_460 : decode cL_law 460 = .ok (.iload 5, 2) := by decide +kernel
theorem dL_law_462 : decode cL_law 462 = .ok (.bipush 6, 2) := by decide +kernel
theorem dL_law_464 : decode cL_law 464 = .ok (.iadd, 1) := by decide +kernel
theorem dL_law_465 : decode cL_law 465 = .ok (.iaload, 1) := by decide +kernel
theorem dL_law_466 : decode cL_law 466 = .ok (.aload_n 3, 1) := by decide +kernel
theorem dL_law_467 : decode cL_law 467 = .ok (.invokestatic 210, 3) := by decide +kernel
theorem dL_law_470 : decode cL_law 470 = .ok (.istore 6, 2) := by decide +kernel
theorem dL_law_472 : decode cL_law 472 = .ok (.aload_n 2, 1) := by decide +kernel
theorem dL_law_473 : decode cL_law 473 = .ok (.aload_n 0, 1) := by decide +kernel
theorem dL_law_474 : decode cL_law 474 = .ok (.iload 5, 2) := by decide +kernel
theorem dL_law_476 : decode cL_law 476 = .ok (.iconst 1, 1) := by decide +kernel
theorem dL_law_477 : decode cL_law 477 = .ok (.iadd, 1) := by decide +kernel
theorem dL_law_478 : decode cL_law 478 = .ok (.iaload, 1) := by decide +kernel
theorem dL_law_479 : decode cL_law 479 = .ok (.aload_n 0, 1) := by decide +kernel
theorem dL_law_480 : decode cL_law 480 = .ok (.iload 5, 2) := by decide +kernel
theorem dL_law_482 : decode cL_law 482 = .ok (.iconst 2, 1) := by decide +kernel
theorem dL_law_483 : decode cL_law 483 = .ok (.iadd, 1) := by decide +kernel
theorem dL_law_484 : decode cL_law 484 = .ok (.iaload, 1) := by decide +kernel
theorem dL_law_485 : decode cL_law 485 = .ok (.aload_n 0, 1) := by decide +kernel
theorem dL_law_486 : decode cL_law 486 = .ok (.iload 5, 2) := by decide +kernel
theorem dL_law_488 : decode cL_law 488 = .ok (.iconst 3, 1) := by decide +kernel
theorem dL_law_489 : decode cL_law 489 = .ok (.iadd, 1) := by decide +kernel
theorem dL_law_490 : decode cL_law 490 = .ok (.iaload, 1) := by decide +kernel
theorem dL_law_491 : decode cL_law 491 = .ok (.aload_n 0, 1) := by decide +kernel
theorem dL_law_492 : decode cL_law 492 = .ok (.iload 5, 2) := by decide +kernel
theorem dL_law_494 : decode cL_law 494 = .ok (.iconst 4, 1) := by decide +kernel
theorem dL_law_495 : decode cL_law 495 = .ok (.iadd, 1) := by decide +kernel
theorem dL_law_496 : decode cL_law 496 = .ok (.iaload, 1) := by decide +kernel
theorem dL_law_497 : decode cL_law 497 = .ok (.aload_n 0, 1) := by decide +kernel
theorem dL_law_498 : decode cL_law 498 = .ok (.iload 5, 2) := by decide +kernel
theorem dL_law_500 : decode cL_law 500 = .ok (.iconst 5, 1) := by decide +kernel
theorem dL_law_501 : decode cL_law 501 = .ok (.iadd, 1) := by decide +kernel
theorem dL_law_502 : decode cL_law 502 = .ok (.iaload, 1) := by decide +kernel
theorem dL_law_503 : decode cL_law 503 = .ok (.ifCond .eq 7, 3) := by decide +kernel
theorem dL_law_506 : decode cL_law 506 = .ok (.iconst 1, 1) := by decide +kernel
theorem dL_law_507 : decode cL_law 507 = .ok (.goto 4, 3) := by decide +kernel
theorem dL_law_510 : decode cL_law 510 = .ok (.iconst 0, 1) := by decide +kernel
theorem dL_law_511 : decode cL_law 511 = .ok (.aload_n 0, 1) := by decide +kernel
theorem dL_law_512 : decode cL_law 512 = .ok (.iload 5, 2) := by decide +kernel
theorem dL_law_514 : decode cL_law 514 = .ok (.bipush 6, 2) := by decide +kernel
theorem dL_law_516 : decode cL_law 516 = .ok (.iadd, 1) := by decide +kernel
theorem dL_law_517 : decode cL_law 517 = .ok (.iaload, 1) := by decide +kernel
theorem dL_law_518 : decode cL_law 518 = .ok (.invokevirtual 213, 3) := by decide +kernel
theorem dL_law_521 : decode cL_law 521 = .ok (.istore 7, 2) := by decide +kernel
theorem dL_law_523 : decode cL_law 523 = .ok (.aload_n 2, 1) := by decide +kernel
theorem dL_law_524 : decode cL_law 524 = .ok (.invokevirtual 204, 3) := by decide +kernel
theorem dL_law_527 : decode cL_law 527 = .ok (.iload 6, 2) := by decide +kernel
theorem dL_law_529 : decode cL_law 529 = .ok (.if_icmp .eq 5, 3) := by decide +kernel
theorem dL_law_532 : decode cL_law 532 = .ok (.iconst 0, 1) := by decide +kernel
theorem dL_law_533 : decode cL_law 533 = .ok (.ireturn, 1) := by decide +kernel
theorem dL_law_534 : decode cL_law 534 = .ok (.iload 6, 2) := by decide +kernel
theorem dL_law_536 : decode cL_law 536 = .ok (.ifCond .ne 15, 3) := by decide +kernel
theorem dL_law_539 : decode cL_law 539 = .ok (.aload_n 3, 1) := by decide +kernel
theorem dL_law_540 : decode cL_law 540 = .ok (.iconst 0, 1) := by decide +kernel
theorem dL_law_541 : decode cL_law 541 = .ok (.laload, 1) := by decide +kernel
theorem dL_law_542 : decode cL_law 542 = .ok (.iload 7, 2) := by decide +kernel
theorem dL_law_544 : decode cL_law 544 = .ok (.i2l, 1) := by decide +kernel
theorem dL_law_545 : decode cL_law 545 = .ok (.lcmp, 1) := by decide +kernel
theorem dL_law_546 : decode cL_law 546 = .ok (.ifCond .eq 5, 3) := by decide +kernel
theorem dL_law_549 : decode cL_law 549 = .ok (.iconst 0, 1) := by decide +kernel
theorem dL_law_550 : decode cL_law 550 = .ok (.ireturn, 1) := by decide +kernel
theorem dL_law_551 : decode cL_law 551 = .ok (.goto 3066, 3) := by decide +kernel
theorem dL_law_554 : decode cL_law 554 = .ok (.aload_n 1, 1) := by decide +kernel
theorem dL_law_555 : decode cL_law 555 = .ok (.aload_n 0, 1) := by decide +kernel
theorem dL_law_556 : decode cL_law 556 = .ok (.iload 5, 2) := by decide +kernel
theorem dL_law_558 : decode cL_law 558 = .ok (.iconst 1, 1) := by decide +kernel
theorem dL_law_559 : decode cL_law 559 = .ok (.iadd, 1) := by decide +kernel
theorem dL_law_560 : decode cL_law 560 = .ok (.iaload, 1) := by decide +kernel
theorem dL_law_561 : decode cL_law 561 = .ok (.aload_n 3, 1) := by decide +kernel
theorem dL_law_562 : decode cL_law 562 = .ok (.invokestatic 214, 3) := by decide +kernel
theorem dL_law_565 : decode cL_law 565 = .ok (.istore 6, 2) := by decide +kernel
theorem dL_law_567 : decode cL_law 567 = .ok (.aload_n 2, 1) := by decide +kernel
theorem dL_law_568 : decode cL_law 568 = .ok (.aload_n 0, 1) := by decide +kernel
theorem dL_law_569 : decode cL_law 569 = .ok (.iload 5, 2) := by decide +kernel
theorem dL_law_571 : decode cL_law 571 = .ok (.iconst 1, 1) := by decide +kernel
theorem dL_law_572 : decode cL_law 572 = .ok (.iadd, 1) := by decide +kernel
theorem dL_law_573 : decode cL_law 573 = .ok (.iaload, 1) := by decide +kernel
theorem dL_law_574 : decode cL_law 574 = .ok (.invokevirtual 216, 3) := by decide +kernel
theorem dL_law_577 : decode cL_law 577 = .ok (.istore 7, 2) := by decide +kernel
theorem dL_law_579 : decode cL_law 579 = .ok (.aload_n 2, 1) := by decide +kernel
theorem dL_law_580 : decode cL_law 580 = .ok (.invokevirtual 204, 3) := by decide +kernel
theorem dL_law_583 : decode cL_law 583 = .ok (.iload 6, 2) := by decide +kernel
theorem dL_law_585 : decode cL_law 585 = .ok (.if_icmp .eq 5, 3) := by decide +kernel
theorem dL_law_588 : decode cL_law 588 = .ok (.iconst 0, 1) := by decide +kernel
theorem dL_law_589 : decode cL_law 589 = .ok (.ireturn, 1) := by decide +kernel
theorem dL_law_590 : decode cL_law 590 = .ok (.iload 6, 2) := by decide +kernel
theorem dL_law_592 : decode cL_law 592 = .ok (.ifCond .ne 15, 3) := by decide +kernel
theorem dL_law_595 : decode cL_law 595 = .ok (.aload_n 3, 1) := by decide +kernel
theorem dL_law_596 : decode cL_law 596 = .ok (.iconst 0, 1) := by decide +kernel
theorem dL_law_597 : decode cL_law 597 = .ok (.laload, 1) := by decide +kernel
theorem dL_law_598 : decode cL_law 598 = .ok (.iload 7, 2) := by decide +kernel
theorem dL_law_600 : decode cL_law 600 = .ok (.i2l, 1) := by decide +kernel
theorem dL_law_601 : decode cL_law 601 = .ok (.lcmp, 1) := by decide +kernel
theorem dL_law_602 : decode cL_law 602 = .ok (.ifCond .eq 5, 3) := by decide +kernel
theorem dL_law_605 : decode cL_law 605 = .ok (.iconst 0, 1) := by decide +kernel
theorem dL_law_606 : decode cL_law 606 = .ok (.ireturn, 1) := by decide +kernel
theorem dL_law_607 : decode cL_law 607 = .ok (.goto 3010, 3) := by decide +kernel
theorem dL_law_610 : decode cL_law 610 = .ok (.aload_n 1, 1) := by decide +kernel
theorem dL_law_611 : decode cL_law 611 = .ok (.aload_n 0, 1) := by decide +kernel
theorem dL_law_612 : decode cL_law 612 = .ok (.iload 5, 2) := by decide +kernel
theorem dL_law_614 : decode cL_law 614 = .ok (.iconst 1, 1) := by decide +kernel
theorem dL_law_615 : decode cL_law 615 = .ok (.iadd, 1) := by decide +kernel
theorem dL_law_616 : decode cL_law 616 = .ok (.iaload, 1) := by decide +kernel
theorem dL_law_617 : decode cL_law 617 = .ok (.aload_n 0, 1) := by decide +kernel
theorem dL_law_618 : decode cL_law 618 = .ok (.iload 5, 2) := by decide +kernel
theorem dL_law_620 : decode cL_law 620 = .ok (.iconst 2, 1) := by decide +kernel
theorem dL_law_621 : decode cL_law 621 = .ok (.iadd, 1) := by decide +kernel
theorem dL_law_622 : decode cL_law 622 = .ok (.iaload, 1) := by decide +kernel
theorem dL_law_623 : decode cL_law 623 = .ok (.aload_n 0, 1) := by decide +kernel
theorem dL_law_624 : decode cL_law 624 = .ok (.iload 5, 2) := by decide +kernel
theorem dL_law_626 : decode cL_law 626 = .ok (.iconst 3, 1) := by decide +kernel
theorem dL_law_627 : decode cL_law 627 = .ok (.iadd, 1) := by decide +kernel
theorem dL_law_628 : decode cL_law 628 = .ok (.iaload, 1) := by decide +kernel
theorem dL_law_629 : decode cL_law 629 = .ok (.aload_n 3, 1) := by decide +kernel
theorem dL_law_630 : decode cL_law 630 = .ok (.invokestatic 217, 3) := by decide +kernel
theorem dL_law_633 : decode cL_law 633 = .ok (.istore 6, 2) := by decide +kernel
theorem dL_law_635 : decode cL_law 635 = .ok (.aload_n 2, 1) := by decide +kernel
theorem dL_law_636 : decode cL_law 636 = .ok (.aload_n 0, 1) := by decide +kernel
theorem dL_law_637 : decode cL_law 637 = .ok (.iload 5, 2) := by decide +kernel
theorem dL_law_639 : decode cL_law 639 = .ok (.iconst 1, 1) := by decide +kernel
theorem dL_law_640 : decode cL_law 640 = .ok (.iadd, 1) := by decide +kernel
theorem dL_law_641 : decode cL_law 641 = .ok (.iaload, 1) := by decide +kernel
theorem dL_law_642 : decode cL_law 642 = .ok (.aload_n 0, 1) := by decide +kernel
theorem dL_law_643 : decode cL_law 643 = .ok (.iload 5, 2) := by decide +kernel
theorem dL_law_645 : decode cL_law 645 = .ok (.iconst 2, 1) := by decide +kernel
theorem dL_law_646 : decode cL_law 646 = .ok (.iadd, 1) := by decide +kernel
theorem dL_law_647 : decode cL_law 647 = .ok (.iaload, 1) := by decide +kernel
theorem dL_law_648 : decode cL_law 648 = .ok (.aload_n 0, 1) := by decide +kernel
theorem dL_law_649 : decode cL_law 649 = .ok (.iload 5, 2) := by decide +kernel
theorem dL_law_651 : decode cL_law 651 = .ok (.iconst 3, 1) := by decide +kernel
theorem dL_law_652 : decode cL_law 652 = .ok (.iadd, 1) := by decide +kernel
theorem dL_law_653 : decode cL_law 653 = .ok (.iaload, 1) := by decide +kernel
theorem dL_law_654 : decode cL_law 654 = .ok (.invokevirtual 220, 3) := by decide +kernel
theorem dL_law_657 : decode cL_law 657 = .ok (.istore 7, 2) := by decide +kernel
theorem dL_law_659 : decode cL_law 659 = .ok (.aload_n 2, 1) := by decide +kernel
theorem dL_law_660 : decode cL_law 660 = .ok (.invokevirtual 204, 3) := by decide +kernel
theorem dL_law_663 : decode cL_law 663 = .ok (.iload 6, 2) := by decide +kernel
theorem dL_law_665 : decode cL_law 665 = .ok (.if_icmp .eq 5, 3) := by decide +kernel
theorem dL_law_668 : decode cL_law 668 = .ok (.iconst 0, 1) := by decide +kernel
theorem dL_law_669 : decode cL_law 669 = .ok (.ireturn, 1) := by decide +kernel
theorem dL_law_670 : decode cL_law 670 = .ok (.iload 6, 2) := by decide +kernel
theorem dL_law_672 : decode cL_law 672 = .ok (.ifCond .ne 15, 3) := by decide +kernel
theorem dL_law_675 : decode cL_law 675 = .ok (.aload_n 3, 1) := by decide +kernel
theorem dL_law_676 : decode cL_law 676 = .ok (.iconst 0, 1) := by decide +kernel
theorem dL_law_677 : decode cL_law 677 = .ok (.laload, 1) := by decide +kernel
theorem dL_law_678 : decode cL_law 678 = .ok (.iload 7, 2) := by decide +kernel
theorem dL_law_680 : decode cL_law 680 = .ok (.i2l, 1) := by decide +kernel
theorem dL_law_681 : decode cL_law 681 = .ok (.lcmp, 1) := by decide +kernel
theorem dL_law_682 : decode cL_law 682 = .ok (.ifCond .eq 5, 3) := by decide +kernel
theorem dL_law_685 : decode cL_law 685 = .ok (.iconst 0, 1) := by decide +kernel
theorem dL_law_686 : decode cL_law 686 = .ok (.ireturn, 1) := by decide +kernel
theorem dL_law_687 : decode cL_law 687 = .ok (.goto 2930, 3) := by decide +kernel
theorem dL_law_690 : decode cL_law 690 = .ok (.aload_n 1, 1) := by decide +kernel
theorem dL_law_691 : decode cL_law 691 = .ok (.aload_n 0, 1) := by decide +kernel
theorem dL_law_692 : decode cL_law 692 = .ok (.iload 5, 2) := by decide +kernel
theorem dL_law_694 : decode cL_law 694 = .ok (.iconst 1, 1) := by decide +kernel
theorem dL_law_695 : decode cL_law 695 = .ok (.iadd, 1) := by decide +kernel
theorem dL_law_696 : decode cL_law 696 = .ok (.iaload, 1) := by decide +kernel
theorem dL_law_697 : decode cL_law 697 = .ok (.aload_n 3, 1) := by decide +kernel
theorem dL_law_698 : decode cL_law 698 = .ok (.invokestatic 221, 3) := by decide +kernel
theorem dL_law_701 : decode cL_law 701 = .ok (.istore 6, 2) := by decide +kernel
theorem dL_law_703 : decode cL_law 703 = .ok (.aload_n 2, 1) := by decide +kernel
