set_option maxRecDepth 20000 in
theorem ggL_addTrack_X9_addTrack : GoodIn wsL_addTrack wsX9_addTrack := goodIn_ca (goodIn_ca (goodIn_r _ [7, 8, 9, 10, 11, 12, 13, 6, 14, 15, 16, 17, 18, 19, 20, 21, 22, 23, 24, 25, 26, 27, 28, 29, 30, 31, 32, 33, 34, 35, 36, 37, 38, 39, 40, 41, 42, 43, 44, 45, 46, 47, 48, 49, 50, 51, 52, 53, 54, 55, 56, 57, 58, 59, 60, 61, 62, 63, 64, 65, 66, 67, 68, 69, 70, 71, 72, 73, 74, 75, 76, 77, 78, 79, 80, 81, 82, 83, 84, 85, 86, 87, 88, 89, 90, 91, 92, 93, 94, 95, 96, 97, 98, 99, 100, 101, 102, 103, 104, 105, 106, 107, 108, 109, 110, 111, 112, 113, 114, 115, 116, 117, 118, 119, 120, 121, 122, 123, 124, 125, 126, 127, 128, 129] (by decide +kernel) (by decide +kernel)) (goodIn_sub (fun _ h => List.mem_cons_of_mem _ (List.mem_append_left _ (List.mem_append_right _ h))) (by decide +kernel))) (goodIn_sub (fun _ h => List.mem_cons_of_mem _ (List.mem_append_right _ h)) (by decide +kernel))
set_option maxRecDepth 20000 in
theorem gL_addTrack_X9_addTrack : GoodIn wsL_addTrack (wsV RL 7 RX9 yX9_addTrack wsX9_addTrack) := goodIn_app (goodIn_of _ (by decide +kernel)) ggL_addTrack_X9_addTrack
theorem dL_addTrack_0 : decode cL_addTrack 0 = .ok (.aload_n 2, 1) := by decide +kernel
theorem dL_addTrack_1 : decode cL_addTrack 1 = .ok (.iconst 0, 1) := by decide +kernel
theorem dL_addTrack_2 : decode cL_addTrack 2 = .ok (.aload_n 0, 1) := by decide +kernel
theorem dL_addTrack_3 : decode cL_addTrack 3 = .ok (.iload_n 1, 1) := by decide +kernel
theorem dL_addTrack_4 : decode cL_addTrack 4 = .ok (.invokevirtual 7, 3) := by decide +kernel
theorem dL_addTrack_7 : decode cL_addTrack 7 = .ok (.i2l, 1) := by decide +kernel
theorem dL_addTrack_8 : decode cL_addTrack 8 = .ok (.lastore, 1) := by decide +kernel
theorem dL_addTrack_9 : decode cL_addTrack 9 = .ok (.goto 9, 3) := by decide +kernel
theorem dL_addTrack_12 : decode cL_addTrack 12 = .ok (.astore_n 3, 1) := by decide +kernel
theorem dL_addTrack_13 : decode cL_addTrack 13 = .ok (.iconst 1, 1) := by decide +kernel
theorem dL_addTrack_14 : decode cL_addTrack 14 = .ok (.ireturn, 1) := by decide +kernel
theorem dL_addTrack_15 : decode cL_addTrack 15 = .ok (.astore_n 3, 1) := by decide +kernel
theorem dL_addTrack_16 : decode cL_addTrack 16 = .ok (.iconst 2, 1) := by decide +kernel
theorem dL_addTrack_17 : decode cL_addTrack 17 = .ok (.ireturn, 1) := by decide +kernel
theorem dL_addTrack_18 : decode cL_addTrack 18 = .ok (.iconst 0, 1) := by decide +kernel
theorem dL_addTrack_19 : decode cL_addTrack 19 = .ok (.ireturn, 1) := by decide +kernel
set_option maxRecDepth 20000 in
theorem ggL_removeTrack_X9_removeTrack : GoodIn wsL_removeTrack wsX9_removeTrack := goodIn_ca (goodIn_r _ [6, 7, 8, 9, 10, 11, 5, 12, 13, 14, 15, 16, 17, 18, 19, 20, 21, 22, 23, 24, 25, 26, 27, 28, 29, 30, 31, 32, 33, 34, 35, 36, 37, 38, 39, 40, 41, 42, 43, 44, 45, 46, 47, 48, 49, 50, 51, 52, 53, 54, 55, 56, 57, 58, 59, 60, 61, 62, 63, 64, 65, 66, 67, 68, 69, 70, 71, 72, 73, 74, 75, 76, 77, 78, 79, 80, 81, 82, 83, 84, 85, 86, 87, 88, 89, 90, 91, 92, 93, 94, 95, 96, 97, 98, 99, 100, 101, 102, 103, 104, 105, 106, 107] (by decide +kernel) (by decide +kernel)) (goodIn_sub (fun _ h => List.mem_cons_of_mem _ (List.mem_append_right _ h)) (by decide +kernel))
set_option maxRecDepth 20000 in
theorem gL_removeTrack_X9_removeTrack : GoodIn wsL_removeTrack (wsV RL 17 RX9 yX9_removeTrack wsX9_removeTrack) := goodIn_app (goodIn_of _ (by decide +kernel)) ggL_removeTrack_X9_removeTrack
theorem dL_removeTrack_0 : decode cL_removeTrack 0 = .ok (.aload_n 2, 1) := by decide +kernel
theorem dL_removeTrack_1 : decode cL_removeTrack 1 = .ok (.iconst 0, 1) := by decide +kernel
theorem dL_removeTrack_2 : decode cL_removeTrack 2 = .ok (.aload_n 0, 1) := by decide +kernel
theorem dL_removeTrack_3 : decode cL_removeTrack 3 = .ok (.iload_n 1, 1) := by decide +kernel
theorem dL_removeTrack_4 : decode cL_removeTrack 4 = .ok (.invokevirtual 17, 3) := by decide +kernel
theorem dL_removeTrack_7 : decode cL_removeTrack 7 = .ok (.i2l, 1) := by decide +kernel
theorem dL_removeTrack_8 : decode cL_removeTrack 8 = .ok (.lastore, 1) := by decide +kernel
theorem dL_removeTrack_9 : decode cL_removeTrack 9 = .ok (.goto 6, 3) := by decide +kernel
theorem dL_removeTrack_12 : decode cL_removeTrack 12 = .ok (.astore_n 3, 1) := by decide +kernel
theorem dL_removeTrack_13 : decode cL_removeTrack 13 = .ok (.iconst 1, 1) := by decide +kernel
theorem dL_removeTrack_14 : decode cL_removeTrack 14 = .ok (.ireturn, 1) := by decide +kernel
theorem dL_removeTrack_15 : decode cL_removeTrack 15 = .ok (.iconst 0, 1) := by decide +kernel
theorem dL_removeTrack_16 : decode cL_removeTrack 16 = .ok (.ireturn, 1) := by decide +kernel
set_option maxRecDepth 20000 in
theorem ggL_addPrint_X9_addPrint : GoodIn wsL_addPrint wsX9_addPrint := goodIn_ca (goodIn_ca (goodIn_ca (goodIn_r _ [8, 9, 10, 11, 12, 13, 14, 15, 7, 16, 17, 18, 19, 20, 21, 22, 23, 24, 25, 26, 27, 28, 29, 30, 31, 32, 33, 34, 35, 36, 37, 38, 39, 40, 41, 42, 43, 44, 45, 46, 47, 48, 49, 50, 51, 52, 53, 54, 55, 56, 57, 58, 59, 60, 61, 62, 63, 64, 65, 66, 67, 68, 69, 70, 71, 72, 73, 74, 75, 76, 77, 78, 79, 80, 81, 82, 83, 84, 85, 86, 87, 88, 89, 90, 91, 92, 93, 94, 95, 96, 97, 98, 99, 100, 101, 102, 103, 104, 105, 106, 107, 108, 109, 110, 111, 112, 113, 114, 115, 116, 117, 118, 119, 120, 121, 122, 123, 124, 125, 126, 127, 128, 129, 130, 131, 132, 133, 134, 135, 136, 137, 138, 139, 140, 141, 142, 143, 144, 145, 146, 147, 148, 149, 150, 151, 152, 153, 154, 155, 156, 157, 158, 159, 160, 161, 162, 163, 164, 165, 166, 167, 168, 169, 170, 171, 172, 173, 174, 175, 176, 177, 178, 179, 180, 181, 182, 183, 184, 185, 186, 187, 188, 189] (by decide +kernel) (by decide +kernel)) (goodIn_sub (fun _ h => List.mem_cons_of_mem _ (List.mem_append_left _ (List.mem_append_left _ (List.mem_append_right _ h)))) (by decide +kernel))) (goodIn_sub (fun _ h => List.mem_cons_of_mem _ (List.mem_append_left _ (List.mem_append_right _ h))) (by decide +kernel))) (goodIn_sub (fun _ h => List.mem_cons_of_mem _ (List.mem_append_right _ h)) (by decide +kernel))
set_option maxRecDepth 20000 in
theorem gL_addPrint_X9_addPrint : GoodIn wsL_addPrint (wsV RL 22 RX9 yX9_addPrint wsX9_addPrint) := goodIn_app (goodIn_of _ (by decide +kernel)) ggL_addPrint_X9_addPrint
theorem dL_addPrint_0 : decode cL_addPrint 0 = .ok (.aload 7, 2) := by decide +kernel
theorem dL_addPrint_2 : decode cL_addPrint 2 = .ok (.iconst 0, 1) := by decide +kernel
theorem dL_addPrint_3 : decode cL_addPrint 3 = .ok (.aload_n 0, 1) := by decide +kernel
theorem dL_addPrint_4 : decode cL_addPrint 4 = .ok (.iload_n 1, 1) := by decide +kernel
theorem dL_addPrint_5 : decode cL_addPrint 5 = .ok (.iload_n 2, 1) := by decide +kernel
theorem dL_addPrint_6 : decode cL_addPrint 6 = .ok (.iload_n 3, 1) := by decide +kernel
theorem dL_addPrint_7 : decode cL_addPrint 7 = .ok (.iload 4, 2) := by decide +kernel
theorem dL_addPrint_9 : decode cL_addPrint 9 = .ok (.iload 5, 2) := by decide +kernel
theorem dL_addPrint_11 : decode cL_addPrint 11 = .ok (.iload 6, 2) := by decide +kernel
theorem dL_addPrint_13 : decode cL_addPrint 13 = .ok (.invokevirtual 22, 3) := by decide +kernel
theorem dL_addPrint_16 : decode cL_addPrint 16 = .ok (.i2l, 1) := by decide +kernel
theorem dL_addPrint_17 : decode cL_addPrint 17 = .ok (.lastore, 1) := by decide +kernel
theorem dL_addPrint_18 : decode cL_addPrint 18 = .ok (.goto 15, 3) := by decide +kernel
theorem dL_addPrint_21 : decode cL_addPrint 21 = .ok (.astore 8, 2) := by decide +kernel
theorem dL_addPrint_23 : decode cL_addPrint 23 = .ok (.iconst 1, 1) := by decide +kernel
theorem dL_addPrint_24 : decode cL_addPrint 24 = .ok (.ireturn, 1) := by decide +kernel
theorem dL_addPrint_25 : decode cL_addPrint 25 = .ok (.astore 8, 2) := by decide +kernel
theorem dL_addPrint_27 : decode cL_addPrint 27 = .ok (.iconst 2, 1) := by decide +kernel
theorem dL_addPrint_28 : decode cL_addPrint 28 = .ok (.ireturn, 1) := by decide +kernel
theorem dL_addPrint_29 : decode cL_addPrint 29 = .ok (.astore 8, 2) := by decide +kernel
theorem dL_addPrint_31 : decode cL_addPrint 31 = .ok (.iconst 3, 1) := by decide +kernel
theorem dL_addPrint_32 : decode cL_addPrint 32 = .ok (.ireturn, 1) := by decide +kernel
theorem dL_addPrint_33 : decode cL_addPrint 33 = .ok (.iconst 0, 1) := by decide +kernel
theorem dL_addPrint_34 : decode cL_addPrint 34 = .ok (.ireturn, 1) := by decide +kernel
set_option maxRecDepth 20000 in
theorem ggL_removePrint_X9_removePrint : GoodIn wsL_removePrint wsX9_removePrint := goodIn_ca (goodIn_r _ [6, 7, 8, 9, 10, 11, 12, 5, 13, 14, 15, 16, 17, 18, 19, 20, 21, 22, 23, 24, 25, 26, 27, 28, 29, 30, 31, 32, 33, 34, 35, 36, 37, 38, 39, 40, 41, 42, 43, 44, 45, 46, 47, 48, 49, 50, 51, 52, 53, 54, 55, 56, 57, 58, 59, 60, 61, 62, 63, 64, 65, 66, 67, 68, 69, 70, 71, 72, 73, 74, 75, 76, 77, 78, 79, 80, 81, 82, 83, 84, 85, 86, 87, 88, 89, 90, 91, 92, 93, 94, 95, 96, 97, 98, 99, 100, 101, 102, 103] (by decide +kernel) (by decide +kernel)) (goodIn_sub (fun _ h => List.mem_cons_of_mem _ (List.mem_append_right _ h)) (by decide +kernel))
set_option maxRecDepth 20000 in
theorem gL_removePrint_X9_removePrint : GoodIn wsL_removePrint (wsV RL 26 RX9 yX9_removePrint wsX9_removePrint) := goodIn_app (goodIn_of _ (by decide +kernel)) ggL_removePrint_X9_removePrint
theorem dL_removePrint_0 : decode cL_removePrint 0 = .ok (.aload_n 2, 1) := by decide +kernel
theorem dL_removePrint_1 : decode cL_removePrint 1 = .ok (.iconst 0, 1) := by decide +kernel
theorem dL_removePrint_2 : decode cL_removePrint 2 = .ok (.aload_n 0, 1) := by decide +kernel
theorem dL_removePrint_3 : decode cL_removePrint 3 = .ok (.iload_n 1, 1) := by decide +kernel
theorem dL_removePrint_4 : decode cL_removePrint 4 = .ok (.invokevirtual 26, 3) := by decide +kernel
theorem dL_removePrint_7 : decode cL_removePrint 7 = .ok (.i2l, 1) := by decide +kernel
theorem dL_removePrint_8 : decode cL_removePrint 8 = .ok (.lastore, 1) := by decide +kernel
theorem dL_removePrint_9 : decode cL_removePrint 9 = .ok (.goto 6, 3) := by decide +kernel
theorem dL_removePrint_12 : decode cL_removePrint 12 = .ok (.astore_n 3, 1) := by decide +kernel
theorem dL_removePrint_13 : decode cL_removePrint 13 = .ok (.iconst 1, 1) := by decide +kernel
theorem dL_removePrint_14 : decode cL_removePrint 14 = .ok (.ireturn, 1) := by decide +kernel
theorem dL_removePrint_15 : decode cL_removePrint 15 = .ok (.iconst 0, 1) := by decide +kernel
theorem dL_removePrint_16 : decode cL_removePrint 16 = .ok (.ireturn, 1) := by decide +kernel
set_option maxRecDepth 20000 in
theorem ggL_correctHeel_X9_correctHeel : GoodIn wsL_correctHeel wsX9_correctHeel := goodIn_ca (goodIn_ca (goodIn_r _ [7, 8, 9, 10, 11, 12, 6, 13, 14, 15, 16, 17, 18, 19, 20, 21, 22, 23, 24, 25, 26, 27, 28, 29, 30, 31, 32, 33, 34, 35, 36, 37, 38, 39, 40, 41, 42, 43, 44, 45, 46, 47, 48, 49, 50, 51, 52, 53, 54, 55, 56, 57, 58, 59, 60, 61, 62, 63, 64, 65, 66, 67, 68, 69, 70, 71, 72, 73, 74, 75, 76, 77, 78, 79, 80, 81, 82, 83, 84, 85, 86, 87, 88, 89, 90, 91, 92, 93, 94, 95, 96, 97, 98, 99, 100, 101, 102, 103, 104, 105, 106, 107, 108, 109, 110, 111, 112, 113, 114, 115, 116, 117, 118, 119, 120, 121, 122, 123, 124, 125, 126, 127, 128, 129, 130, 131, 132, 133, 134, 135, 136, 137, 138, 139, 140, 141, 142, 143, 144, 145, 146, 147, 148, 149, 150, 151, 152, 153, 154, 155, 156, 157, 158, 159] (by decide +kernel) (by decide +kernel)) (goodIn_sub (fun _ h => List.mem_cons_of_mem _ (List.mem_append_left _ (List.mem_append_right _ h))) (by decide +kernel))) (goodIn_sub (fun _ h => List.mem_cons_of_mem _ (List.mem_append_right _ h)) (by decide +kernel))
set_option maxRecDepth 20000 in
theorem gL_correctHeel_X9_correctHeel : GoodIn wsL_correctHeel (wsV RL 29 RX9 yX9_correctHeel wsX9_correctHeel) := goodIn_app (goodIn_of _ (by decide +kernel)) ggL_correctHeel_X9_correctHeel
theorem dL_correctHeel_0 : decode cL_correctHeel 0 = .ok (.aload 4, 2) := by decide +kernel
theorem dL_correctHeel_2 : decode cL_correctHeel 2 = .ok (.iconst 0, 1) := by decide +kernel
theorem dL_correctHeel_3 : decode cL_correctHeel 3 = .ok (.aload_n 0, 1) := by decide +kernel
theorem dL_correctHeel_4 : decode cL_correctHeel 4 = .ok (.iload_n 1, 1) := by decide +kernel
theorem dL_correctHeel_5 : decode cL_correctHeel 5 = .ok (.iload_n 2, 1) := by decide +kernel
theorem dL_correctHeel_6 : decode cL_correctHeel 6 = .ok (.iload_n 3, 1) := by decide +kernel
theorem dL_correctHeel_7 : decode cL_correctHeel 7 = .ok (.invokevirtual 29, 3) := by decide +kernel
theorem dL_correctHeel_10 : decode cL_correctHeel 10 = .ok (.i2l, 1) := by decide +kernel
theorem dL_correctHeel_11 : decode cL_correctHeel 11 = .ok (.lastore, 1) := by decide +kernel
theorem dL_correctHeel_12 : decode cL_correctHeel 12 = .ok (.goto 11, 3) := by decide +kernel
theorem dL_correctHeel_15 : decode cL_correctHeel 15 = .ok (.astore 5, 2) := by decide +kernel
theorem dL_correctHeel_17 : decode cL_correctHeel 17 = .ok (.iconst 1, 1) := by decide +kernel
theorem dL_correctHeel_18 : decode cL_correctHeel 18 = .ok (.ireturn, 1) := by decide +kernel
theorem dL_correctHeel_19 : decode cL_correctHeel 19 = .ok (.astore 5, 2) := by decide +kernel
theorem dL_correctHeel_21 : decode cL_correctHeel 21 = .ok (.iconst 2, 1) := by decide +kernel
theorem dL_correctHeel_22 : decode cL_correctHeel 22 = .ok (.ireturn, 1) := by decide +kernel
theorem dL_correctHeel_23 : decode cL_correctHeel 23 = .ok (.iconst 0, 1) := by decide +kernel
theorem dL_correctHeel_24 : decode cL_correctHeel 24 = .ok (.ireturn, 1) := by decide +kernel
set_option maxRecDepth 20000 in
theorem ggL_swapFoot_X9_swapFoot : GoodIn wsL_swapFoot wsX9_swapFoot := goodIn_ca (goodIn_r _ [6, 7, 8, 9, 10, 11, 5, 12, 13, 14, 15, 16, 17, 18, 19, 20, 21, 22, 23, 24, 25, 26, 27, 28, 29, 30, 31, 32, 33, 34, 35, 36, 37, 38, 39, 40, 41, 42, 43, 44, 45, 46, 47, 48, 49, 50, 51, 52, 53, 54, 55, 56, 57, 58, 59, 60, 61, 62, 63, 64, 65, 66, 67, 68, 69, 70, 71, 72, 73, 74, 75, 76, 77, 78, 79, 80, 81, 82, 83, 84, 85, 86, 87, 88, 89, 90, 91, 92, 93, 94, 95, 96, 97, 98, 99, 100, 101, 102] (by decide +kernel) (by decide +kernel)) (goodIn_sub (fun _ h => List.mem_cons_of_mem _ (List.mem_append_right _ h)) (by decide +kernel))
set_option maxRecDepth 20000 in
theorem gL_swapFoot_X9_swapFoot : GoodIn wsL_swapFoot (wsV RL 33 RX9 yX9_swapFoot wsX9_swapFoot) := goodIn_app (goodIn_of _ (by decide +kernel)) ggL_swapFoot_X9_swapFoot
theorem dL_swapFoot_0 : decode cL_swapFoot 0 = .ok (.aload_n 2, 1) := by decide +kernel
theorem dL_swapFoot_1 : decode cL_swapFoot 1 = .ok (.iconst 0, 1) := by decide +kernel
theorem dL_swapFoot_2 : decode cL_swapFoot 2 = .ok (.aload_n 0, 1) := by decide +kernel
theorem dL_swapFoot_3 : decode cL_swapFoot 3 = .ok (.iload_n 1, 1) := by decide +kernel
theorem dL_swapFoot_4 : decode cL_swapFoot 4 = .ok (.invokevirtual 33, 3) := by decide +kernel
theorem dL_swapFoot_7 : decode cL_swapFoot 7 = .ok (.ifCond .eq 7, 3) := by decide +kernel
theorem dL_swapFoot_10 : decode cL_swapFoot 10 = .ok (.lconst 1, 1) := by decide +kernel
theorem dL_swapFoot_11 : decode cL_swapFoot 11 = .ok (.goto 4, 3) := by decide +kernel
theorem dL_swapFoot_14 : decode cL_swapFoot 14 = .ok (.lconst 0, 1) := by decide +kernel
theorem dL_swapFoot_15 : decode cL_swapFoot 15 = .ok (.lastore, 1) := by decide +kernel
theorem dL_swapFoot_16 : decode cL_swapFoot 16 = .ok (.goto 6, 3) := by decide +kernel
theorem dL_swapFoot_19 : decode cL_swapFoot 19 = .ok (.astore_n 3, 1) := by decide +kernel
theorem dL_swapFoot_20 : decode cL_swapFoot 20 = .ok (.iconst 1, 1) := by decide +kernel
theorem dL_swapFoot_21 : decode cL_swapFoot 21 = .ok (.ireturn, 1) := by decide +kernel
theorem dL_swapFoot_22 : decode cL_swapFoot 22 = .ok (.iconst 0, 1) := by decide +kernel
theorem dL_swapFoot_23 : decode cL_swapFoot 23 = .ok (.ireturn, 1) := by decide +kernel
set_option maxRecDepth 20000 in
theorem ggL_doubtToes_X9_doubtToes : GoodIn wsL_doubtToes wsX9_doubtToes := goodIn_ca (goodIn_ca (goodIn_r _ [7, 8, 9, 10, 11, 12, 6, 13, 14, 15, 16, 17, 18, 19, 20, 21, 22, 23, 24, 25, 26, 27, 28, 29, 30, 31, 32, 33, 34, 35, 36, 37, 38, 39, 40, 41, 42, 43, 44, 45, 46, 47, 48, 49, 50, 51, 52, 53, 54, 55, 56, 57, 58, 59, 60, 61, 62, 63, 64, 65, 66, 67, 68, 69, 70, 71, 72, 73, 74, 75, 76, 77, 78, 79, 80, 81, 82, 83, 84, 85, 86, 87, 88, 89, 90, 91, 92, 93, 94, 95, 96, 97, 98, 99, 100, 101, 102, 103, 104, 105, 106, 107, 108, 109, 110, 111, 112, 113, 114, 115, 116, 117, 118, 119, 120, 121, 122, 123, 124, 125, 126, 127, 128, 129, 130] (by decide +kernel) (by decide +kernel)) (goodIn_sub (fun _ h => List.mem_cons_of_mem _ (List.mem_append_left _ (List.mem_append_right _ h))) (by decide +kernel))) (goodIn_sub (fun _ h => List.mem_cons_of_mem _ (List.mem_append_right _ h)) (by decide +kernel))
set_option maxRecDepth 20000 in
theorem gL_doubtToes_X9_doubtToes : GoodIn wsL_doubtToes (wsV RL 37 RX9 yX9_doubtToes wsX9_doubtToes) := goodIn_app (goodIn_of _ (by decide +kernel)) ggL_doubtToes_X9_doubtToes
theorem dL_doubtToes_0 : decode cL_doubtToes 0 = .ok (.aload_n 2, 1) := by decide +kernel
theorem dL_doubtToes_1 : decode cL_doubtToes 1 = .ok (.iconst 0, 1) := by decide +kernel
theorem dL_doubtToes_2 : decode cL_doubtToes 2 = .ok (.aload_n 0, 1) := by decide +kernel
theorem dL_doubtToes_3 : decode cL_doubtToes 3 = .ok (.iload_n 1, 1) := by decide +kernel
theorem dL_doubtToes_4 : decode cL_doubtToes 4 = .ok (.invokevirtual 37, 3) := by decide +kernel
theorem dL_doubtToes_7 : decode cL_doubtToes 7 = .ok (.i2l, 1) := by decide +kernel
theorem dL_doubtToes_8 : decode cL_doubtToes 8 = .ok (.lastore, 1) := by decide +kernel
theorem dL_doubtToes_9 : decode cL_doubtToes 9 = .ok (.goto 9, 3) := by decide +kernel
theorem dL_doubtToes_12 : decode cL_doubtToes 12 = .ok (.astore_n 3, 1) := by decide +kernel
theorem dL_doubtToes_13 : decode cL_doubtToes 13 = .ok (.iconst 1, 1) := by decide +kernel
theorem dL_doubtToes_14 : decode cL_doubtToes 14 = .ok (.ireturn, 1) := by decide +kernel
theorem dL_doubtToes_15 : decode cL_doubtToes 15 = .ok (.astore_n 3, 1) := by decide +kernel
theorem dL_doubtToes_16 : decode cL_doubtToes 16 = .ok (.iconst 2, 1) := by decide +kernel
theorem dL_doubtToes_17 : decode cL_doubtToes 17 = .ok (.ireturn, 1) := by decide +kernel
theorem dL_doubtToes_18 : decode cL_doubtToes 18 = .ok (.iconst 0, 1) := by decide +kernel
theorem dL_doubtToes_19 : decode cL_doubtToes 19 = .ok (.ireturn, 1) := by decide +kernel
set_option maxRecDepth 20000 in
theorem ggL_confirmToes_X9_confirmToes : GoodIn wsL_confirmToes wsX9_confirmToes := goodIn_ca (goodIn_ca (goodIn_r _ [7, 8, 9, 10, 11, 12, 6, 13, 14, 15, 16, 17, 18, 19, 20, 21, 22, 23, 24, 25, 26, 27, 28, 29, 30, 31, 32, 33, 34, 35, 36, 37, 38, 39, 40, 41, 42, 43, 44, 45, 46, 47, 48, 49, 50, 51, 52, 53, 54, 55, 56, 57, 58, 59, 60, 61, 62, 63, 64, 65, 66, 67, 68, 69, 70, 71, 72, 73, 74, 75, 76, 77, 78, 79, 80, 81, 82, 83, 84, 85, 86, 87, 88, 89, 90, 91, 92, 93, 94, 95, 96, 97, 98, 99, 100, 101, 102, 103, 104, 105, 106, 107, 108, 109, 110, 111, 112, 113, 114, 115, 116, 117, 118, 119, 120, 121, 122, 123, 124, 125, 126, 127, 128, 129, 130] (by decide +kernel) (by decide +kernel)) (goodIn_sub (fun _ h => List.mem_cons_of_mem _ (List.mem_append_left _ (List.mem_append_right _ h))) (by decide +kernel))) (goodIn_sub (fun _ h => List.mem_cons_of_mem _ (List.mem_append_right _ h)) (by decide +kernel))
set_option maxRecDepth 20000 in
theorem gL_confirmToes_X9_confirmToes : GoodIn wsL_confirmToes (wsV RL 40 RX9 yX9_confirmToes wsX9_confirmToes) := goodIn_app (goodIn_of _ (by decide +kernel)) ggL_confirmToes_X9_confirmToes
theorem dL_confirmToes_0 : decode cL_confirmToes 0 = .ok (.aload_n 2, 1) := by decide +kernel
theorem dL_confirmToes_1 : decode cL_confirmToes 1 = .ok (.iconst 0, 1) := by decide +kernel
theorem dL_confirmToes_2 : decode cL_confirmToes 2 = .ok (.aload_n 0, 1) := by decide +kernel
theorem dL_confirmToes_3 : decode cL_confirmToes 3 = .ok (.iload_n 1, 1) := by decide +kernel
theorem dL_confirmToes_4 : decode cL_confirmToes 4 = .ok (.invokevirtual 40, 3) := by decide +kernel
theorem dL_confirmToes_7 : decode cL_confirmToes 7 = .ok (.i2l, 1) := by decide +kernel
theorem dL_confirmToes_8 : decode cL_confirmToes 8 = .ok (.lastore, 1) := by decide +kernel
theorem dL_confirmToes_9 : decode cL_confirmToes 9 = .ok (.goto 9, 3) := by decide +kernel
theorem dL_confirmToes_12 : decode cL_confirmToes 12 = .ok (.astore_n 3, 1) := by decide +kernel
theorem dL_confirmToes_13 : decode cL_confirmToes 13 = .ok (.iconst 1, 1) := by decide +kernel
theorem dL_confirmToes_14 : decode cL_confirmToes 14 = .ok (.ireturn, 1) := by decide +kernel
theorem dL_confirmToes_15 : decode cL_confirmToes 15 = .ok (.astore_n 3, 1) := by decide +kernel
theorem dL_confirmToes_16 : decode cL_confirmToes 16 = .ok (.iconst 2, 1) := by decide +kernel
theorem dL_confirmToes_17 : decode cL_confirmToes 17 = .ok (.ireturn, 1) := by decide +kernel
theorem dL_confirmToes_18 : decode cL_confirmToes 18 = .ok (.iconst 0, 1) := by decide +kernel
theorem dL_confirmToes_19 : decode cL_confirmToes 19 = .ok (.ireturn, 1) := by decide +kernel
set_option maxRecDepth 20000 in
theorem ggL_setTide_X9_setTide : GoodIn wsL_setTide wsX9_setTide := goodIn_ca (goodIn_ca (goodIn_r _ [7, 8, 9, 10, 11, 6, 12, 13, 14, 15, 16, 17, 18, 19, 20, 21, 22, 23, 24, 25, 26, 27, 28, 29, 30, 31, 32, 33, 34, 35, 36, 37, 38, 39, 40, 41, 42, 43, 44, 45, 46, 47, 48, 49, 50, 51, 52, 53, 54, 55, 56, 57, 58, 59, 60, 61, 62, 63, 64, 65, 66, 67, 68, 69, 70, 71, 72, 73, 74, 75, 76, 77, 78, 79, 80, 81, 82, 83, 84, 85, 86, 87, 88, 89, 90, 91, 92, 93, 94, 95, 96, 97, 98, 99, 100, 101, 102, 103, 104, 105, 106, 107, 108, 109, 110, 111, 112, 113, 114, 115, 116, 117, 118, 119, 120, 121, 122, 123, 124, 125, 126, 127, 128, 129, 130, 131] (by decide +kernel) (by decide +kernel)) (goodIn_sub (fun _ h => List.mem_cons_of_mem _ (List.mem_append_left _ (List.mem_append_right _ h))) (by decide +kernel))) (goodIn_sub (fun _ h => List.mem_cons_of_mem _ (List.mem_append_right _ h)) (by decide +kernel))
set_option maxRecDepth 20000 in
theorem gL_setTide_X9_setTide : GoodIn wsL_setTide (wsV RL 43 RX9 yX9_setTide wsX9_setTide) := goodIn_app (goodIn_of _ (by decide +kernel)) ggL_setTide_X9_setTide
theorem dL_setTide_0 : decode cL_setTide 0 = .ok (.aload_n 2, 1) := by decide +kernel
theorem dL_setTide_1 : decode cL_setTide 1 = .ok (.iconst 0, 1) := by decide +kernel
theorem dL_setTide_2 : decode cL_setTide 2 = .ok (.aload_n 0, 1) := by decide +kernel
theorem dL_setTide_3 : decode cL_setTide 3 = .ok (.iload_n 1, 1) := by decide +kernel
theorem dL_setTide_4 : decode cL_setTide 4 = .ok (.invokevirtual 43, 3) := by decide +kernel
theorem dL_setTide_7 : decode cL_setTide 7 = .ok (.i2l, 1) := by decide +kernel
theorem dL_setTide_8 : decode cL_setTide 8 = .ok (.lastore, 1) := by decide +kernel
theorem dL_setTide_9 : decode cL_setTide 9 = .ok (.goto 9, 3) := by decide +kernel
theorem dL_setTide_12 : decode cL_setTide 12 = .ok (.astore_n 3, 1) := by decide +kernel
theorem dL_setTide_13 : decode cL_setTide 13 = .ok (.iconst 1, 1) := by decide +kernel
theorem dL_setTide_14 : decode cL_setTide 14 = .ok (.ireturn, 1) := by decide +kernel
theorem dL_setTide_15 : decode cL_setTide 15 = .ok (.astore_n 3, 1) := by decide +kernel
theorem dL_setTide_16 : decode cL_setTide 16 = .ok (.iconst 2, 1) := by decide +kernel
theorem dL_setTide_17 : decode cL_setTide 17 = .ok (.ireturn, 1) := by decide +kernel
theorem dL_setTide_18 : decode cL_setTide 18 = .ok (.iconst 0, 1) := by decide +kernel
theorem dL_setTide_19 : decode cL_setTide 19 = .ok (.ireturn, 1) := by decide +kernel
set_option maxRecDepth 20000 in
theorem ggL_trackOf_X9_trackOf : GoodIn wsL_trackOf wsX9_trackOf := goodIn_ca (goodIn_r _ [6, 7, 8, 9, 10, 5, 11, 12, 13, 14, 15, 16, 17, 18, 19, 20, 21, 22, 23, 24, 25, 26, 27, 28, 29, 30, 31, 32, 33, 34, 35, 36, 37, 38, 39, 40, 41, 42, 43, 44, 45, 46, 47, 48, 49] (by decide +kernel) (by decide +kernel)) (goodIn_sub (fun _ h => List.mem_cons_of_mem _ (List.mem_append_right _ h)) (by decide +kernel))
set_option maxRecDepth 20000 in
theorem gL_trackOf_X9_trackOf : GoodIn wsL_trackOf (wsV RL 46 RX9 yX9_trackOf wsX9_trackOf) := goodIn_app (goodIn_of _ (by decide +kernel)) ggL_trackOf_X9_trackOf
theorem dL_trackOf_0 : decode cL_trackOf 0 = .ok (.aload_n 2, 1) := by decide +kernel
theorem dL_trackOf_1 : decode cL_trackOf 1 = .ok (.iconst 0, 1) := by decide +kernel
theorem dL_trackOf_2 : decode cL_trackOf 2 = .ok (.aload_n 0, 1) := by decide +kernel
theorem dL_trackOf_3 : decode cL_trackOf 3 = .ok (.iload_n 1, 1) := by decide +kernel
theorem dL_trackOf_4 : decode cL_trackOf 4 = .ok (.invokevirtual 46, 3) := by decide +kernel
theorem dL_trackOf_7 : decode cL_trackOf 7 = .ok (.i2l, 1) := by decide +kernel
theorem dL_trackOf_8 : decode cL_trackOf 8 = .ok (.lastore, 1) := by decide +kernel
theorem dL_trackOf_9 : decode cL_trackOf 9 = .ok (.goto 6, 3) := by decide +kernel
theorem dL_trackOf_12 : decode cL_trackOf 12 = .ok (.astore_n 3, 1) := by decide +kernel
theorem dL_trackOf_13 : decode cL_trackOf 13 = .ok (.iconst 1, 1) := by decide +kernel
theorem dL_trackOf_14 : decode cL_trackOf 14 = .ok (.ireturn, 1) := by decide +kernel
theorem dL_trackOf_15 : decode cL_trackOf 15 = .ok (.iconst 0, 1) := by decide +kernel
theorem dL_trackOf_16 : decode cL_trackOf 16 = .ok (.ireturn, 1) := by decide +kernel
set_option maxRecDepth 20000 in
theorem ggL_timeOf_X9_timeOf : GoodIn wsL_timeOf wsX9_timeOf := goodIn_ca (goodIn_r _ [6, 7, 8, 9, 10, 5, 11, 12, 13, 14, 15, 16, 17, 18, 19, 20, 21, 22, 23, 24, 25, 26, 27, 28, 29, 30, 31, 32, 33, 34, 35, 36, 37, 38, 39, 40, 41, 42, 43, 44, 45, 46, 47, 48, 49] (by decide +kernel) (by decide +kernel)) (goodIn_sub (fun _ h => List.mem_cons_of_mem _ (List.mem_append_right _ h)) (by decide +kernel))
set_option maxRecDepth 20000 in
theorem gL_timeOf_X9_timeOf : GoodIn wsL_timeOf (wsV RL 49 RX9 yX9_timeOf wsX9_timeOf) := goodIn_app (goodIn_of _ (by decide +kernel)) ggL_timeOf_X9_timeOf
theorem dL_timeOf_0 : decode cL_timeOf 0 = .ok (.aload_n 2, 1) := by decide +kernel
theorem dL_timeOf_1 : decode cL_timeOf 1 = .ok (.iconst 0, 1) := by decide +kernel
theorem dL_timeOf_2 : decode cL_timeOf 2 = .ok (.aload_n 0, 1) := by decide +kernel
theorem dL_timeOf_3 : decode cL_timeOf 3 = .ok (.iload_n 1, 1) := by decide +kernel
theorem dL_timeOf_4 : decode cL_timeOf 4 = .ok (.invokevirtual 49, 3) := by decide +kernel
theorem dL_timeOf_7 : decode cL_timeOf 7 = .ok (.i2l, 1) := by decide +kernel
theorem dL_timeOf_8 : decode cL_timeOf 8 = .ok (.lastore, 1) := by decide +kernel
theorem dL_timeOf_9 : decode cL_timeOf 9 = .ok (.goto 6, 3) := by decide +kernel
theorem dL_timeOf_12 : decode cL_timeOf 12 = .ok (.astore_n 3, 1) := by decide +kernel
theorem dL_timeOf_13 : decode cL_timeOf 13 = .ok (.iconst 1, 1) := by decide +kernel
theorem dL_timeOf_14 : decode cL_timeOf 14 = .ok (.ireturn, 1) := by decide +kernel
theorem dL_timeOf_15 : decode cL_timeOf 15 = .ok (.iconst 0, 1) := by decide +kernel
theorem dL_timeOf_16 : decode cL_timeOf 16 = .ok (.ireturn, 1) := by decide +kernel
set_option maxRecDepth 20000 in
theorem ggL_rowOf_X9_rowOf : GoodIn wsL_rowOf wsX9_rowOf := goodIn_ca (goodIn_r _ [6, 7, 8, 9, 10, 5, 11, 12, 13, 14, 15, 16, 17, 18, 19, 20, 21, 22, 23, 24, 25, 26, 27, 28, 29, 30, 31, 32, 33, 34, 35, 36, 37, 38, 39, 40, 41, 42, 43, 44, 45, 46, 47, 48, 49] (by decide +kernel) (by decide +kernel)) (goodIn_sub (fun _ h => List.mem_cons_of_mem _ (List.mem_append_right _ h)) (by decide +kernel))
set_option maxRecDepth 20000 in
theorem gL_rowOf_X9_rowOf : GoodIn wsL_rowOf (wsV RL 52 RX9 yX9_rowOf wsX9_rowOf) := goodIn_app (goodIn_of _ (by decide +kernel)) ggL_rowOf_X9_rowOf
theorem dL_rowOf_0 : decode cL_rowOf 0 = .ok (.aload_n 2, 1) := by decide +kernel
theorem dL_rowOf_1 : decode cL_rowOf 1 = .ok (.iconst 0, 1) := by decide +kernel
theorem dL_rowOf_2 : decode cL_rowOf 2 = .ok (.aload_n 0, 1) := by decide +kernel
theorem dL_rowOf_3 : decode cL_rowOf 3 = .ok (.iload_n 1, 1) := by decide +kernel
theorem dL_rowOf_4 : decode cL_rowOf 4 = .ok (.invokevirtual 52, 3) := by decide +kernel
theorem dL_rowOf_7 : decode cL_rowOf 7 = .ok (.i2l, 1) := by decide +kernel
theorem dL_rowOf_8 : decode cL_rowOf 8 = .ok (.lastore, 1) := by decide +kernel
theorem dL_rowOf_9 : decode cL_rowOf 9 = .ok (.goto 6, 3) := by decide +kernel
theorem dL_rowOf_12 : decode cL_rowOf 12 = .ok (.astore_n 3, 1) := by decide +kernel
theorem dL_rowOf_13 : decode cL_rowOf 13 = .ok (.iconst 1, 1) := by decide +kernel
theorem dL_rowOf_14 : decode cL_rowOf 14 = .ok (.ireturn, 1) := by decide +kernel
theorem dL_rowOf_15 : decode cL_rowOf 15 = .ok (.iconst 0, 1) := by decide +kernel
theorem dL_rowOf_16 : decode cL_rowOf 16 = .ok (.ireturn, 1) := by decide +kernel
