theorem dX10_doubtsOf_4 : decode cX10_doubtsOf 4 = .ok (.invokevirtual 160, 3) := by decide +kernel
theorem dX10_doubtsOf_7 : decode cX10_doubtsOf 7 = .ok (.ireturn, 1) := by decide +kernel
set_option maxRecDepth 20000 in
theorem ggX10_confidence_X10_ofPrint : GoodIn wsX10_confidence wsX10_ofPrint := goodIn_ca (goodIn_r _ [6, 7, 8, 9, 5, 10, 11, 12, 13, 14, 15, 16, 17, 18, 19, 1, 20, 21, 22, 23, 24, 25, 26, 27, 28, 29, 30, 31, 32, 33, 34, 35, 36, 37] (by decide +kernel) (by decide +kernel)) (goodIn_sub (fun _ h => List.mem_cons_of_mem _ (List.mem_append_right _ h)) (by decide +kernel))
set_option maxRecDepth 20000 in
theorem gX10_confidence_X10_ofPrint : GoodIn wsX10_confidence (wsV RX10 160 RX10 yX10_ofPrint wsX10_ofPrint) := goodIn_app (goodIn_of _ (by decide +kernel)) ggX10_confidence_X10_ofPrint
theorem dX10_confidence_0 : decode cX10_confidence 0 = .ok (.aload_n 0, 1) := by decide +kernel
theorem dX10_confidence_1 : decode cX10_confidence 1 = .ok (.iload_n 1, 1) := by decide +kernel
theorem dX10_confidence_2 : decode cX10_confidence 2 = .ok (.bipush 7, 2) := by decide +kernel
theorem dX10_confidence_4 : decode cX10_confidence 4 = .ok (.invokevirtual 160, 3) := by decide +kernel
theorem dX10_confidence_7 : decode cX10_confidence 7 = .ok (.istore_n 2, 1) := by decide +kernel
theorem dX10_confidence_8 : decode cX10_confidence 8 = .ok (.aload_n 0, 1) := by decide +kernel
theorem dX10_confidence_9 : decode cX10_confidence 9 = .ok (.getfield 27, 3) := by decide +kernel
theorem dX10_confidence_12 : decode cX10_confidence 12 = .ok (.ifCond .ne 12, 3) := by decide +kernel
theorem dX10_confidence_15 : decode cX10_confidence 15 = .ok (.dconst 1, 1) := by decide +kernel
theorem dX10_confidence_16 : decode cX10_confidence 16 = .ok (.dconst 1, 1) := by decide +kernel
theorem dX10_confidence_17 : decode cX10_confidence 17 = .ok (.iload_n 2, 1) := by decide +kernel
theorem dX10_confidence_18 : decode cX10_confidence 18 = .ok (.i2d, 1) := by decide +kernel
theorem dX10_confidence_19 : decode cX10_confidence 19 = .ok (.dadd, 1) := by decide +kernel
theorem dX10_confidence_20 : decode cX10_confidence 20 = .ok (.ddiv, 1) := by decide +kernel
theorem dX10_confidence_21 : decode cX10_confidence 21 = .ok (.goto 4, 3) := by decide +kernel
theorem dX10_confidence_24 : decode cX10_confidence 24 = .ok (.dconst 0, 1) := by decide +kernel
theorem dX10_confidence_25 : decode cX10_confidence 25 = .ok (.dreturn, 1) := by decide +kernel
set_option maxRecDepth 20000 in
theorem ggX10_isLate_X10_ofPrint : GoodIn wsX10_isLate wsX10_ofPrint := goodIn_ca (goodIn_r _ [5, 6, 7, 8, 4, 9, 10, 11, 12, 13, 14, 15, 16, 17, 18, 19, 20, 21, 22, 23, 24, 25, 26, 27, 28, 29, 30, 31, 32, 33, 34, 35, 36, 37] (by decide +kernel) (by decide +kernel)) (goodIn_sub (fun _ h => List.mem_cons_of_mem _ (List.mem_append_right _ h)) (by decide +kernel))
set_option maxRecDepth 20000 in
theorem gX10_isLate_X10_ofPrint : GoodIn wsX10_isLate (wsV RX10 160 RX10 yX10_ofPrint wsX10_ofPrint) := goodIn_app (goodIn_of _ (by decide +kernel)) ggX10_isLate_X10_ofPrint
theorem dX10_isLate_0 : decode cX10_isLate 0 = .ok (.aload_n 0, 1) := by decide +kernel
theorem dX10_isLate_1 : decode cX10_isLate 1 = .ok (.iload_n 1, 1) := by decide +kernel
theorem dX10_isLate_2 : decode cX10_isLate 2 = .ok (.bipush 8, 2) := by decide +kernel
theorem dX10_isLate_4 : decode cX10_isLate 4 = .ok (.invokevirtual 160, 3) := by decide +kernel
theorem dX10_isLate_7 : decode cX10_isLate 7 = .ok (.iconst 1, 1) := by decide +kernel
theorem dX10_isLate_8 : decode cX10_isLate 8 = .ok (.if_icmp .ne 7, 3) := by decide +kernel
theorem dX10_isLate_11 : decode cX10_isLate 11 = .ok (.iconst 1, 1) := by decide +kernel
theorem dX10_isLate_12 : decode cX10_isLate 12 = .ok (.goto 4, 3) := by decide +kernel
theorem dX10_isLate_15 : decode cX10_isLate 15 = .ok (.iconst 0, 1) := by decide +kernel
theorem dX10_isLate_16 : decode cX10_isLate 16 = .ok (.ireturn, 1) := by decide +kernel
set_option maxRecDepth 20000 in
theorem ggX10_idBeside_X10_find : GoodIn wsX10_idBeside wsX10_find := goodIn_ca (goodIn_r _ [6, 7, 8, 9, 10, 5, 11, 16, 17, 18, 19, 20, 21, 22, 23, 24, 25, 26, 27, 28, 29, 30, 31, 32, 33] (by decide +kernel) (by decide +kernel)) (goodIn_sub (fun _ h => List.mem_cons_of_mem _ (List.mem_append_right _ h)) (by decide +kernel))
set_option maxRecDepth 20000 in
theorem gX10_idBeside_X10_find : GoodIn wsX10_idBeside (wsV RX10 136 RX10 yX10_find wsX10_find) := goodIn_app (goodIn_of _ (by decide +kernel)) ggX10_idBeside_X10_find
set_option maxRecDepth 20000 in
theorem ggX10_idBeside_X10_beside : GoodIn wsX10_idBeside wsX10_beside := goodIn_ca (goodIn_r _ [15, 7, 8, 9, 10, 5, 11, 16, 17, 18, 19, 20, 21, 22, 23, 24, 25, 26, 27, 28, 29, 30, 31, 32, 33] (by decide +kernel) (by decide +kernel)) (goodIn_sub (fun _ h => List.mem_cons_of_mem _ (List.mem_append_right _ h)) (by decide +kernel))
set_option maxRecDepth 20000 in
theorem gX10_idBeside_X10_beside : GoodIn wsX10_idBeside (wsV RX10 68 RX10 yX10_beside wsX10_beside) := goodIn_app (goodIn_of _ (by decide +kernel)) ggX10_idBeside_X10_beside
set_option maxRecDepth 20000 in
theorem ggX10_idBeside_X10_p : GoodIn wsX10_idBeside wsX10_p := goodIn_ca (goodIn_r _ [11, 7, 16, 17, 18, 19, 20, 21, 22, 23, 24, 25, 26, 27, 28, 29, 30, 31, 32, 33] (by decide +kernel) (by decide +kernel)) (goodIn_sub (fun _ h => List.mem_cons_of_mem _ (List.mem_append_right _ h)) (by decide +kernel))
set_option maxRecDepth 20000 in
theorem gX10_idBeside_X10_p : GoodIn wsX10_idBeside (wsV RX10 56 RX10 yX10_p wsX10_p) := goodIn_app (goodIn_of _ (by decide +kernel)) ggX10_idBeside_X10_p
theorem dX10_idBeside_0 : decode cX10_idBeside 0 = .ok (.aload_n 0, 1) := by decide +kernel
theorem dX10_idBeside_1 : decode cX10_idBeside 1 = .ok (.iload_n 1, 1) := by decide +kernel
theorem dX10_idBeside_2 : decode cX10_idBeside 2 = .ok (.invokevirtual 136, 3) := by decide +kernel
theorem dX10_idBeside_5 : decode cX10_idBeside 5 = .ok (.istore_n 3, 1) := by decide +kernel
theorem dX10_idBeside_6 : decode cX10_idBeside 6 = .ok (.aload_n 0, 1) := by decide +kernel
theorem dX10_idBeside_7 : decode cX10_idBeside 7 = .ok (.iload_n 3, 1) := by decide +kernel
theorem dX10_idBeside_8 : decode cX10_idBeside 8 = .ok (.ifCond .ge 7, 3) := by decide +kernel
theorem dX10_idBeside_11 : decode cX10_idBeside 11 = .ok (.iconst 1, 1) := by decide +kernel
theorem dX10_idBeside_12 : decode cX10_idBeside 12 = .ok (.goto 17, 3) := by decide +kernel
theorem dX10_idBeside_15 : decode cX10_idBeside 15 = .ok (.aload_n 0, 1) := by decide +kernel
theorem dX10_idBeside_16 : decode cX10_idBeside 16 = .ok (.iload_n 3, 1) := by decide +kernel
theorem dX10_idBeside_17 : decode cX10_idBeside 17 = .ok (.iload_n 2, 1) := by decide +kernel
theorem dX10_idBeside_18 : decode cX10_idBeside 18 = .ok (.invokevirtual 68, 3) := by decide +kernel
theorem dX10_idBeside_21 : decode cX10_idBeside 21 = .ok (.ifCond .ge 7, 3) := by decide +kernel
theorem dX10_idBeside_24 : decode cX10_idBeside 24 = .ok (.iconst 2, 1) := by decide +kernel
theorem dX10_idBeside_25 : decode cX10_idBeside 25 = .ok (.goto 4, 3) := by decide +kernel
theorem dX10_idBeside_28 : decode cX10_idBeside 28 = .ok (.iconst 0, 1) := by decide +kernel
theorem dX10_idBeside_29 : decode cX10_idBeside 29 = .ok (.putfield 27, 3) := by decide +kernel
theorem dX10_idBeside_32 : decode cX10_idBeside 32 = .ok (.aload_n 0, 1) := by decide +kernel
theorem dX10_idBeside_33 : decode cX10_idBeside 33 = .ok (.getfield 27, 3) := by decide +kernel
theorem dX10_idBeside_36 : decode cX10_idBeside 36 = .ok (.ifCond .ne 17, 3) := by decide +kernel
theorem dX10_idBeside_39 : decode cX10_idBeside 39 = .ok (.aload_n 0, 1) := by decide +kernel
theorem dX10_idBeside_40 : decode cX10_idBeside 40 = .ok (.aload_n 0, 1) := by decide +kernel
theorem dX10_idBeside_41 : decode cX10_idBeside 41 = .ok (.iload_n 3, 1) := by decide +kernel
theorem dX10_idBeside_42 : decode cX10_idBeside 42 = .ok (.iload_n 2, 1) := by decide +kernel
theorem dX10_idBeside_43 : decode cX10_idBeside 43 = .ok (.invokevirtual 68, 3) := by decide +kernel
theorem dX10_idBeside_46 : decode cX10_idBeside 46 = .ok (.iconst 0, 1) := by decide +kernel
theorem dX10_idBeside_47 : decode cX10_idBeside 47 = .ok (.invokevirtual 56, 3) := by decide +kernel
theorem dX10_idBeside_50 : decode cX10_idBeside 50 = .ok (.goto 4, 3) := by decide +kernel
theorem dX10_idBeside_53 : decode cX10_idBeside 53 = .ok (.iconst 0, 1) := by decide +kernel
theorem dX10_idBeside_54 : decode cX10_idBeside 54 = .ok (.ireturn, 1) := by decide +kernel
set_option maxRecDepth 20000 in
theorem ggX10_previousPrint_X10_idBeside : GoodIn wsX10_previousPrint wsX10_idBeside := goodIn_ca (goodIn_r _ [5, 6, 7, 8, 9, 4, 10, 11, 12, 13, 14, 15, 16, 17, 18, 19, 20, 21, 22, 23, 24, 25, 26, 27, 28, 29, 30, 31, 32, 33, 34, 35, 36, 37] (by decide +kernel) (by decide +kernel)) (goodIn_sub (fun _ h => List.mem_cons_of_mem _ (List.mem_append_right _ h)) (by decide +kernel))
set_option maxRecDepth 20000 in
theorem gX10_previousPrint_X10_idBeside : GoodIn wsX10_previousPrint (wsV RX10 163 RX10 yX10_idBeside wsX10_idBeside) := goodIn_app (goodIn_of _ (by decide +kernel)) ggX10_previousPrint_X10_idBeside
theorem dX10_previousPrint_0 : decode cX10_previousPrint 0 = .ok (.aload_n 0, 1) := by decide +kernel
theorem dX10_previousPrint_1 : decode cX10_previousPrint 1 = .ok (.iload_n 1, 1) := by decide +kernel
theorem dX10_previousPrint_2 : decode cX10_previousPrint 2 = .ok (.iconst 0, 1) := by decide +kernel
theorem dX10_previousPrint_3 : decode cX10_previousPrint 3 = .ok (.invokevirtual 163, 3) := by decide +kernel
theorem dX10_previousPrint_6 : decode cX10_previousPrint 6 = .ok (.ireturn, 1) := by decide +kernel
set_option maxRecDepth 20000 in
theorem ggX10_nextPrint_X10_idBeside : GoodIn wsX10_nextPrint wsX10_idBeside := goodIn_ca (goodIn_r _ [5, 6, 7, 8, 9, 4, 10, 11, 12, 13, 14, 15, 16, 17, 18, 19, 20, 21, 22, 23, 24, 25, 26, 27, 28, 29, 30, 31, 32, 33, 34, 35, 36, 37] (by decide +kernel) (by decide +kernel)) (goodIn_sub (fun _ h => List.mem_cons_of_mem _ (List.mem_append_right _ h)) (by decide +kernel))
set_option maxRecDepth 20000 in
theorem gX10_nextPrint_X10_idBeside : GoodIn wsX10_nextPrint (wsV RX10 163 RX10 yX10_idBeside wsX10_idBeside) := goodIn_app (goodIn_of _ (by decide +kernel)) ggX10_nextPrint_X10_idBeside
theorem dX10_nextPrint_0 : decode cX10_nextPrint 0 = .ok (.aload_n 0, 1) := by decide +kernel
theorem dX10_nextPrint_1 : decode cX10_nextPrint 1 = .ok (.iload_n 1, 1) := by decide +kernel
theorem dX10_nextPrint_2 : decode cX10_nextPrint 2 = .ok (.iconst 1, 1) := by decide +kernel
theorem dX10_nextPrint_3 : decode cX10_nextPrint 3 = .ok (.invokevirtual 163, 3) := by decide +kernel
theorem dX10_nextPrint_6 : decode cX10_nextPrint 6 = .ok (.ireturn, 1) := by decide +kernel
set_option maxRecDepth 20000 in
theorem ggX10_strideOf_X10_find : GoodIn wsX10_strideOf wsX10_find := goodIn_ca (goodIn_r _ [6, 7, 8, 9, 10, 5, 11, 27, 28, 29, 30, 31, 32, 33, 34, 35, 36, 37, 38, 39, 40, 41, 42, 43, 44] (by decide +kernel) (by decide +kernel)) (goodIn_sub (fun _ h => List.mem_cons_of_mem _ (List.mem_append_right _ h)) (by decide +kernel))
set_option maxRecDepth 20000 in
theorem gX10_strideOf_X10_find : GoodIn wsX10_strideOf (wsV RX10 136 RX10 yX10_find wsX10_find) := goodIn_app (goodIn_of _ (by decide +kernel)) ggX10_strideOf_X10_find
set_option maxRecDepth 20000 in
theorem ggX10_strideOf_X10_beside : GoodIn wsX10_strideOf wsX10_beside := goodIn_ca (goodIn_r _ [15, 7, 8, 9, 10, 5, 11, 27, 28, 29, 30, 31, 32, 33, 34, 35, 36, 37, 38, 39, 40, 41, 42, 43, 44] (by decide +kernel) (by decide +kernel)) (goodIn_sub (fun _ h => List.mem_cons_of_mem _ (List.mem_append_right _ h)) (by decide +kernel))
set_option maxRecDepth 20000 in
theorem gX10_strideOf_X10_beside : GoodIn wsX10_strideOf (wsV RX10 68 RX10 yX10_beside wsX10_beside) := goodIn_app (goodIn_of _ (by decide +kernel)) ggX10_strideOf_X10_beside
set_option maxRecDepth 20000 in
theorem ggX10_strideOf_X10_strideAt : GoodIn wsX10_strideOf wsX10_strideAt := goodIn_ca (goodIn_r _ [19, 12, 13, 14, 5, 15, 7, 8, 9, 10, 11, 20, 21, 22, 23, 24, 25, 26, 27, 28, 29, 30, 31, 32, 33, 34, 35, 36, 37, 38, 39, 40, 41, 42, 43, 44] (by decide +kernel) (by decide +kernel)) (goodIn_sub (fun _ h => List.mem_cons_of_mem _ (List.mem_append_right _ h)) (by decide +kernel))
set_option maxRecDepth 20000 in
theorem gX10_strideOf_X10_strideAt : GoodIn wsX10_strideOf (wsV RX10 76 RX10 yX10_strideAt wsX10_strideAt) := goodIn_app (goodIn_of _ (by decide +kernel)) ggX10_strideOf_X10_strideAt
theorem dX10_strideOf_0 : decode cX10_strideOf 0 = .ok (.aload_n 0, 1) := by decide +kernel
theorem dX10_strideOf_1 : decode cX10_strideOf 1 = .ok (.iload_n 1, 1) := by decide +kernel
theorem dX10_strideOf_2 : decode cX10_strideOf 2 = .ok (.invokevirtual 136, 3) := by decide +kernel
theorem dX10_strideOf_5 : decode cX10_strideOf 5 = .ok (.istore_n 2, 1) := by decide +kernel
theorem dX10_strideOf_6 : decode cX10_strideOf 6 = .ok (.aload_n 0, 1) := by decide +kernel
theorem dX10_strideOf_7 : decode cX10_strideOf 7 = .ok (.iload_n 2, 1) := by decide +kernel
theorem dX10_strideOf_8 : decode cX10_strideOf 8 = .ok (.ifCond .ge 7, 3) := by decide +kernel
theorem dX10_strideOf_11 : decode cX10_strideOf 11 = .ok (.iconst 1, 1) := by decide +kernel
theorem dX10_strideOf_12 : decode cX10_strideOf 12 = .ok (.goto 17, 3) := by decide +kernel
theorem dX10_strideOf_15 : decode cX10_strideOf 15 = .ok (.aload_n 0, 1) := by decide +kernel
theorem dX10_strideOf_16 : decode cX10_strideOf 16 = .ok (.iload_n 2, 1) := by decide +kernel
theorem dX10_strideOf_17 : decode cX10_strideOf 17 = .ok (.iconst 0, 1) := by decide +kernel
theorem dX10_strideOf_18 : decode cX10_strideOf 18 = .ok (.invokevirtual 68, 3) := by decide +kernel
theorem dX10_strideOf_21 : decode cX10_strideOf 21 = .ok (.ifCond .ge 7, 3) := by decide +kernel
theorem dX10_strideOf_24 : decode cX10_strideOf 24 = .ok (.iconst 2, 1) := by decide +kernel
theorem dX10_strideOf_25 : decode cX10_strideOf 25 = .ok (.goto 4, 3) := by decide +kernel
theorem dX10_strideOf_28 : decode cX10_strideOf 28 = .ok (.iconst 0, 1) := by decide +kernel
theorem dX10_strideOf_29 : decode cX10_strideOf 29 = .ok (.putfield 27, 3) := by decide +kernel
theorem dX10_strideOf_32 : decode cX10_strideOf 32 = .ok (.aload_n 0, 1) := by decide +kernel
theorem dX10_strideOf_33 : decode cX10_strideOf 33 = .ok (.getfield 27, 3) := by decide +kernel
theorem dX10_strideOf_36 : decode cX10_strideOf 36 = .ok (.ifCond .ne 11, 3) := by decide +kernel
theorem dX10_strideOf_39 : decode cX10_strideOf 39 = .ok (.aload_n 0, 1) := by decide +kernel
theorem dX10_strideOf_40 : decode cX10_strideOf 40 = .ok (.iload_n 2, 1) := by decide +kernel
theorem dX10_strideOf_41 : decode cX10_strideOf 41 = .ok (.invokevirtual 76, 3) := by decide +kernel
theorem dX10_strideOf_44 : decode cX10_strideOf 44 = .ok (.goto 4, 3) := by decide +kernel
theorem dX10_strideOf_47 : decode cX10_strideOf 47 = .ok (.iconst 0, 1) := by decide +kernel
theorem dX10_strideOf_48 : decode cX10_strideOf 48 = .ok (.ireturn, 1) := by decide +kernel
set_option maxRecDepth 20000 in
theorem ggX10_isWrong_X10_find : GoodIn wsX10_isWrong wsX10_find := goodIn_ca (goodIn_r _ [5, 6, 7, 8, 9, 4, 10, 39, 40, 41, 42, 43, 44, 45, 46, 47, 48, 49, 50, 51, 52, 53, 54, 55, 56] (by decide +kernel) (by decide +kernel)) (goodIn_sub (fun _ h => List.mem_cons_of_mem _ (List.mem_append_right _ h)) (by decide +kernel))
set_option maxRecDepth 20000 in
theorem gX10_isWrong_X10_find : GoodIn wsX10_isWrong (wsV RX10 136 RX10 yX10_find wsX10_find) := goodIn_app (goodIn_of _ (by decide +kernel)) ggX10_isWrong_X10_find
set_option maxRecDepth 20000 in
theorem ggX10_isWrong_X10_isFine : GoodIn wsX10_isWrong wsX10_isFine := goodIn_r _ [14, 15, 39, 40, 41, 42, 43, 44, 45, 46, 47, 48, 49, 50, 51, 52, 53, 54, 55, 56] (by decide +kernel) (by decide +kernel)
set_option maxRecDepth 20000 in
theorem gX10_isWrong_X10_isFine : GoodIn wsX10_isWrong (wsV RX10 49 RX10 yX10_isFine wsX10_isFine) := goodIn_app (goodIn_of _ (by decide +kernel)) ggX10_isWrong_X10_isFine
set_option maxRecDepth 20000 in
theorem ggX10_isWrong_X10_hasError : GoodIn wsX10_isWrong wsX10_hasError := goodIn_ca (goodIn_r _ [19, 6, 20, 21, 22, 4, 23, 7, 8, 9, 10, 24, 25, 26, 27, 28, 29, 30, 31, 32, 33, 34, 35, 36, 37, 38, 39, 40, 41, 42, 43, 44, 45, 46, 47, 48, 49, 50, 51, 52, 53, 54, 55, 56] (by decide +kernel) (by decide +kernel)) (goodIn_sub (fun _ h => List.mem_cons_of_mem _ (List.mem_append_right _ h)) (by decide +kernel))
set_option maxRecDepth 20000 in
theorem gX10_isWrong_X10_hasError : GoodIn wsX10_isWrong (wsV RX10 82 RX10 yX10_hasError wsX10_hasError) := goodIn_app (goodIn_of _ (by decide +kernel)) ggX10_isWrong_X10_hasError
theorem dX10_isWrong_0 : decode cX10_isWrong 0 = .ok (.aload_n 0, 1) := by decide +kernel
theorem dX10_isWrong_1 : decode cX10_isWrong 1 = .ok (.iload_n 1, 1) := by decide +kernel
theorem dX10_isWrong_2 : decode cX10_isWrong 2 = .ok (.invokevirtual 136, 3) := by decide +kernel
theorem dX10_isWrong_5 : decode cX10_isWrong 5 = .ok (.istore_n 3, 1) := by decide +kernel
theorem dX10_isWrong_6 : decode cX10_isWrong 6 = .ok (.aload_n 0, 1) := by decide +kernel
theorem dX10_isWrong_7 : decode cX10_isWrong 7 = .ok (.iload_n 3, 1) := by decide +kernel
theorem dX10_isWrong_8 : decode cX10_isWrong 8 = .ok (.ifCond .lt 7, 3) := by decide +kernel
theorem dX10_isWrong_11 : decode cX10_isWrong 11 = .ok (.iconst 1, 1) := by decide +kernel
theorem dX10_isWrong_12 : decode cX10_isWrong 12 = .ok (.goto 4, 3) := by decide +kernel
theorem dX10_isWrong_15 : decode cX10_isWrong 15 = .ok (.iconst 0, 1) := by decide +kernel
theorem dX10_isWrong_16 : decode cX10_isWrong 16 = .ok (.invokevirtual 49, 3) := by decide +kernel
theorem dX10_isWrong_19 : decode cX10_isWrong 19 = .ok (.ifCond .eq 16, 3) := by decide +kernel
theorem dX10_isWrong_22 : decode cX10_isWrong 22 = .ok (.aload_n 0, 1) := by decide +kernel
theorem dX10_isWrong_23 : decode cX10_isWrong 23 = .ok (.iload_n 3, 1) := by decide +kernel
theorem dX10_isWrong_24 : decode cX10_isWrong 24 = .ok (.iload_n 2, 1) := by decide +kernel
theorem dX10_isWrong_25 : decode cX10_isWrong 25 = .ok (.invokevirtual 82, 3) := by decide +kernel
theorem dX10_isWrong_28 : decode cX10_isWrong 28 = .ok (.ifCond .eq 7, 3) := by decide +kernel
theorem dX10_isWrong_31 : decode cX10_isWrong 31 = .ok (.iconst 1, 1) := by decide +kernel
theorem dX10_isWrong_32 : decode cX10_isWrong 32 = .ok (.goto 4, 3) := by decide +kernel
theorem dX10_isWrong_35 : decode cX10_isWrong 35 = .ok (.iconst 0, 1) := by decide +kernel
theorem dX10_isWrong_36 : decode cX10_isWrong 36 = .ok (.ireturn, 1) := by decide +kernel
set_option maxRecDepth 20000 in
theorem ggX10_hasStrideError_X10_isWrong : GoodIn wsX10_hasStrideError wsX10_isWrong := goodIn_ca (goodIn_r _ [5, 6, 7, 8, 4, 9, 10, 11, 12, 13, 14, 15, 16, 17, 18, 19, 20, 21, 22, 23, 24, 25, 26, 27, 28, 29, 30, 31, 32, 33, 34, 35, 36, 37, 38, 39, 40, 41, 42, 43, 44, 45, 46, 47, 48, 49, 50, 51, 52, 53, 54, 55, 56, 57, 58, 59, 60] (by decide +kernel) (by decide +kernel)) (goodIn_sub (fun _ h => List.mem_cons_of_mem _ (List.mem_append_right _ h)) (by decide +kernel))
set_option maxRecDepth 20000 in
theorem gX10_hasStrideError_X10_isWrong : GoodIn wsX10_hasStrideError (wsV RX10 166 RX10 yX10_isWrong wsX10_isWrong) := goodIn_app (goodIn_of _ (by decide +kernel)) ggX10_hasStrideError_X10_isWrong
theorem dX10_hasStrideError_0 : decode cX10_hasStrideError 0 = .ok (.aload_n 0, 1) := by decide +kernel
theorem dX10_hasStrideError_1 : decode cX10_hasStrideError 1 = .ok (.iload_n 1, 1) := by decide +kernel
theorem dX10_hasStrideError_2 : decode cX10_hasStrideError 2 = .ok (.iconst 0, 1) := by decide +kernel
theorem dX10_hasStrideError_3 : decode cX10_hasStrideError 3 = .ok (.invokevirtual 166, 3) := by decide +kernel
theorem dX10_hasStrideError_6 : decode cX10_hasStrideError 6 = .ok (.ireturn, 1) := by decide +kernel
set_option maxRecDepth 20000 in
theorem ggX10_hasFootError_X10_isWrong : GoodIn wsX10_hasFootError wsX10_isWrong := goodIn_ca (goodIn_r _ [5, 6, 7, 8, 4, 9, 10, 11, 12, 13, 14, 15, 16, 17, 18, 19, 20, 21, 22, 23, 24, 25, 26, 27, 28, 29, 30, 31, 32, 33, 34, 35, 36, 37, 38, 39, 40, 41, 42, 43, 44, 45, 46, 47, 48, 49, 50, 51, 52, 53, 54, 55, 56, 57, 58, 59, 60] (by decide +kernel) (by decide +kernel)) (goodIn_sub (fun _ h => List.mem_cons_of_mem _ (List.mem_append_right _ h)) (by decide +kernel))
set_option maxRecDepth 20000 in
theorem gX10_hasFootError_X10_isWrong : GoodIn wsX10_hasFootError (wsV RX10 166 RX10 yX10_isWrong wsX10_isWrong) := goodIn_app (goodIn_of _ (by decide +kernel)) ggX10_hasFootError_X10_isWrong
theorem dX10_hasFootError_0 : decode cX10_hasFootError 0 = .ok (.aload_n 0, 1) := by decide +kernel
theorem dX10_hasFootError_1 : decode cX10_hasFootError 1 = .ok (.iload_n 1, 1) := by decide +kernel
theorem dX10_hasFootError_2 : decode cX10_hasFootError 2 = .ok (.iconst 1, 1) := by decide +kernel
theorem dX10_hasFootError_3 : decode cX10_hasFootError 3 = .ok (.invokevirtual 166, 3) := by decide +kernel
theorem dX10_hasFootError_6 : decode cX10_hasFootError 6 = .ok (.ireturn, 1) := by decide +kernel
set_option maxRecDepth 20000 in
theorem ggX10_hasDepthError_X10_isWrong : GoodIn wsX10_hasDepthError wsX10_isWrong := goodIn_ca (goodIn_r _ [5, 6, 7, 8, 4, 9, 10, 11, 12, 13, 14, 15, 16, 17, 18, 19, 20, 21, 22, 23, 24, 25, 26, 27, 28, 29, 30, 31, 32, 33, 34, 35, 36, 37, 38, 39, 40, 41, 42, 43, 44, 45, 46, 47, 48, 49, 50, 51, 52, 53, 54, 55, 56, 57, 58, 59, 60] (by decide +kernel) (by decide +kernel)) (goodIn_sub (fun _ h => List.mem_cons_of_mem _ (List.mem_append_right _ h)) (by decide +kernel))
set_option maxRecDepth 20000 in
theorem gX10_hasDepthError_X10_isWrong : GoodIn wsX10_hasDepthError (wsV RX10 166 RX10 yX10_isWrong wsX10_isWrong) := goodIn_app (goodIn_of _ (by decide +kernel)) ggX10_hasDepthError_X10_isWrong
theorem dX10_hasDepthError_0 : decode cX10_hasDepthError 0 = .ok (.aload_n 0, 1) := by decide +kernel
theorem dX10_hasDepthError_1 : decode cX10_hasDepthError 1 = .ok (.iload_n 1, 1) := by decide +kernel
theorem dX10_hasDepthError_2 : decode cX10_hasDepthError 2 = .ok (.iconst 2, 1) := by decide +kernel
theorem dX10_hasDepthError_3 : decode cX10_hasDepthError 3 = .ok (.invokevirtual 166, 3) := by decide +kernel
theorem dX10_hasDepthError_6 : decode cX10_hasDepthError 6 = .ok (.ireturn, 1) := by decide +kernel
set_option maxRecDepth 20000 in
theorem ggX10_maxStride_X10_findTrack : GoodIn wsX10_maxStride wsX10_findTrack := goodIn_ca (goodIn_r _ [6, 1, 12, 13, 14, 15, 16, 17, 18, 19, 20, 21, 22, 23, 24, 25, 26, 27, 28, 29] (by decide +kernel) (by decide +kernel)) (goodIn_sub (fun _ h => List.mem_cons_of_mem _ (List.mem_append_right _ h)) (by decide +kernel))
set_option maxRecDepth 20000 in
theorem gX10_maxStride_X10_findTrack : GoodIn wsX10_maxStride (wsV RX10 79 RX10 yX10_findTrack wsX10_findTrack) := goodIn_app (goodIn_of _ (by decide +kernel)) ggX10_maxStride_X10_findTrack
set_option maxRecDepth 20000 in
theorem ggX10_maxStride_X10_isFine : GoodIn wsX10_maxStride wsX10_isFine := goodIn_r _ [10, 11, 12, 13, 14, 15, 16, 17, 18, 19, 20, 21, 22, 23, 24, 25, 26, 27, 28, 29] (by decide +kernel) (by decide +kernel)
set_option maxRecDepth 20000 in
theorem gX10_maxStride_X10_isFine : GoodIn wsX10_maxStride (wsV RX10 49 RX10 yX10_isFine wsX10_isFine) := goodIn_app (goodIn_of _ (by decide +kernel)) ggX10_maxStride_X10_isFine
theorem dX10_maxStride_0 : decode cX10_maxStride 0 = .ok (.aload_n 0, 1) := by decide +kernel
theorem dX10_maxStride_1 : decode cX10_maxStride 1 = .ok (.iload_n 1, 1) := by decide +kernel
theorem dX10_maxStride_2 : decode cX10_maxStride 2 = .ok (.invokevirtual 79, 3) := by decide +kernel
theorem dX10_maxStride_5 : decode cX10_maxStride 5 = .ok (.istore_n 2, 1) := by decide +kernel
theorem dX10_maxStride_6 : decode cX10_maxStride 6 = .ok (.aload_n 0, 1) := by decide +kernel
theorem dX10_maxStride_7 : decode cX10_maxStride 7 = .ok (.iload_n 2, 1) := by decide +kernel
theorem dX10_maxStride_8 : decode cX10_maxStride 8 = .ok (.ifCond .lt 7, 3) := by decide +kernel
theorem dX10_maxStride_11 : decode cX10_maxStride 11 = .ok (.iconst 1, 1) := by decide +kernel
theorem dX10_maxStride_12 : decode cX10_maxStride 12 = .ok (.goto 4, 3) := by decide +kernel
theorem dX10_maxStride_15 : decode cX10_maxStride 15 = .ok (.iconst 0, 1) := by decide +kernel
theorem dX10_maxStride_16 : decode cX10_maxStride 16 = .ok (.invokevirtual 49, 3) := by decide +kernel
theorem dX10_maxStride_19 : decode cX10_maxStride 19 = .ok (.ifCond .eq 19, 3) := by decide +kernel
theorem dX10_maxStride_22 : decode cX10_maxStride 22 = .ok (.aload_n 0, 1) := by decide +kernel
theorem dX10_maxStride_23 : decode cX10_maxStride 23 = .ok (.getfield 9, 3) := by decide +kernel
theorem dX10_maxStride_26 : decode cX10_maxStride 26 = .ok (.bipush 7, 2) := by decide +kernel
theorem dX10_maxStride_28 : decode cX10_maxStride 28 = .ok (.iconst 2, 1) := by decide +kernel
theorem dX10_maxStride_29 : decode cX10_maxStride 29 = .ok (.iload_n 2, 1) := by decide +kernel
theorem dX10_maxStride_30 : decode cX10_maxStride 30 = .ok (.imul, 1) := by decide +kernel
theorem dX10_maxStride_31 : decode cX10_maxStride 31 = .ok (.iadd, 1) := by decide +kernel
theorem dX10_maxStride_32 : decode cX10_maxStride 32 = .ok (.iconst 1, 1) := by decide +kernel
theorem dX10_maxStride_33 : decode cX10_maxStride 33 = .ok (.iadd, 1) := by decide +kernel
theorem dX10_maxStride_34 : decode cX10_maxStride 34 = .ok (.iaload, 1) := by decide +kernel
theorem dX10_maxStride_35 : decode cX10_maxStride 35 = .ok (.goto 4, 3) := by decide +kernel
theorem dX10_maxStride_38 : decode cX10_maxStride 38 = .ok (.iconst 0, 1) := by decide +kernel
theorem dX10_maxStride_39 : decode cX10_maxStride 39 = .ok (.ireturn, 1) := by decide +kernel
set_option maxRecDepth 20000 in
theorem ggX10_printCount_X10_findTrack : GoodIn wsX10_printCount wsX10_findTrack := goodIn_ca (goodIn_r _ [5, 6, 20, 21, 22, 23, 24, 25, 26, 27, 28, 29, 30, 31, 32, 33, 34, 35, 36, 37] (by decide +kernel) (by decide +kernel)) (goodIn_sub (fun _ h => List.mem_cons_of_mem _ (List.mem_append_right _ h)) (by decide +kernel))
set_option maxRecDepth 20000 in
theorem gX10_printCount_X10_findTrack : GoodIn wsX10_printCount (wsV RX10 79 RX10 yX10_findTrack wsX10_findTrack) := goodIn_app (goodIn_of _ (by decide +kernel)) ggX10_printCount_X10_findTrack
set_option maxRecDepth 20000 in
theorem ggX10_printCount_X10_isFine : GoodIn wsX10_printCount wsX10_isFine := goodIn_r _ [10, 11, 20, 21, 22, 23, 24, 25, 26, 27, 28, 29, 30, 31, 32, 33, 34, 35, 36, 37] (by decide +kernel) (by decide +kernel)
set_option maxRecDepth 20000 in
theorem gX10_printCount_X10_isFine : GoodIn wsX10_printCount (wsV RX10 49 RX10 yX10_isFine wsX10_isFine) := goodIn_app (goodIn_of _ (by decide +kernel)) ggX10_printCount_X10_isFine
set_option maxRecDepth 20000 in
theorem ggX10_printCount_X10_countOf : GoodIn wsX10_printCount wsX10_countOf := goodIn_ca (goodIn_r _ [15, 6, 16, 17, 18, 4, 19, 20, 21, 22, 23, 24, 25, 26, 27, 28, 29, 30, 31, 32, 33, 34, 35, 36, 37] (by decide +kernel) (by decide +kernel)) (goodIn_sub (fun _ h => List.mem_cons_of_mem _ (List.mem_append_right _ h)) (by decide +kernel))
set_option maxRecDepth 20000 in
theorem gX10_printCount_X10_countOf : GoodIn wsX10_printCount (wsV RX10 107 RX10 yX10_countOf wsX10_countOf) := goodIn_app (goodIn_of _ (by decide +kernel)) ggX10_printCount_X10_countOf
theorem dX10_printCount_0 : decode cX10_printCount 0 = .ok (.aload_n 0, 1) := by decide +kernel
theorem dX10_printCount_1 : decode cX10_printCount 1 = .ok (.aload_n 0, 1) := by decide +kernel
theorem dX10_printCount_2 : decode cX10_printCount 2 = .ok (.iload_n 1, 1) := by decide +kernel
theorem dX10_printCount_3 : decode cX10_printCount 3 = .ok (.invokevirtual 79, 3) := by decide +kernel
theorem dX10_printCount_6 : decode cX10_printCount 6 = .ok (.ifCond .lt 7, 3) := by decide +kernel
theorem dX10_printCount_9 : decode cX10_printCount 9 = .ok (.iconst 1, 1) := by decide +kernel
theorem dX10_printCount_10 : decode cX10_printCount 10 = .ok (.goto 4, 3) := by decide +kernel
theorem dX10_printCount_13 : decode cX10_printCount 13 = .ok (.iconst 0, 1) := by decide +kernel
theorem dX10_printCount_14 : decode cX10_printCount 14 = .ok (.invokevirtual 49, 3) := by decide +kernel
theorem dX10_printCount_17 : decode cX10_printCount 17 = .ok (.ifCond .eq 11, 3) := by decide +kernel
theorem dX10_printCount_20 : decode cX10_printCount 20 = .ok (.aload_n 0, 1) := by decide +kernel
theorem dX10_printCount_21 : decode cX10_printCount 21 = .ok (.iload_n 1, 1) := by decide +kernel
theorem dX10_printCount_22 : decode cX10_printCount 22 = .ok (.invokevirtual 107, 3) := by decide +kernel
theorem dX10_printCount_25 : decode cX10_printCount 25 = .ok (.goto 4, 3) := by decide +kernel
theorem dX10_printCount_28 : decode cX10_printCount 28 = .ok (.iconst 0, 1) := by decide +kernel
theorem dX10_printCount_29 : decode cX10_printCount 29 = .ok (.ireturn, 1) := by decide +kernel
set_option maxRecDepth 20000 in
theorem ggX10_printAt_X10_findTrack : GoodIn wsX10_printAt wsX10_findTrack := goodIn_ca (goodIn_r _ [6, 7, 23, 24, 25, 26, 27, 28, 29, 30, 31, 32, 33, 34, 35, 36, 37, 38, 39, 40] (by decide +kernel) (by decide +kernel)) (goodIn_sub (fun _ h => List.mem_cons_of_mem _ (List.mem_append_right _ h)) (by decide +kernel))
set_option maxRecDepth 20000 in
theorem gX10_printAt_X10_findTrack : GoodIn wsX10_printAt (wsV RX10 79 RX10 yX10_findTrack wsX10_findTrack) := goodIn_app (goodIn_of _ (by decide +kernel)) ggX10_printAt_X10_findTrack
set_option maxRecDepth 20000 in
theorem ggX10_printAt_X10_countOf : GoodIn wsX10_printAt wsX10_countOf := goodIn_ca (goodIn_r _ [11, 7, 12, 13, 14, 5, 15, 23, 24, 25, 26, 27, 28, 29, 30, 31, 32, 33, 34, 35, 36, 37, 38, 39, 40] (by decide +kernel) (by decide +kernel)) (goodIn_sub (fun _ h => List.mem_cons_of_mem _ (List.mem_append_right _ h)) (by decide +kernel))
set_option maxRecDepth 20000 in
theorem gX10_printAt_X10_countOf : GoodIn wsX10_printAt (wsV RX10 107 RX10 yX10_countOf wsX10_countOf) := goodIn_app (goodIn_of _ (by decide +kernel)) ggX10_printAt_X10_countOf
set_option maxRecDepth 20000 in
theorem ggX10_printAt_X10_in : GoodIn wsX10_printAt wsX10_in := goodIn_r _ [18] (by decide +kernel) (by decide +kernel)
set_option maxRecDepth 20000 in
theorem gX10_printAt_X10_in : GoodIn wsX10_printAt (va_wsS RX10 60 yX10_in wsX10_in) := goodIn_app (goodIn_of _ (by decide +kernel)) ggX10_printAt_X10_in
set_option maxRecDepth 20000 in
theorem ggX10_printAt_X10_printOf : GoodIn wsX10_printAt wsX10_printOf := goodIn_ca (goodIn_r _ [22, 7, 12, 13, 14, 5, 15, 23, 24, 25, 26, 27, 28, 29, 30, 31, 32, 33, 34, 35, 36, 37, 38, 39, 40] (by decide +kernel) (by decide +kernel)) (goodIn_sub (fun _ h => List.mem_cons_of_mem _ (List.mem_append_right _ h)) (by decide +kernel))
set_option maxRecDepth 20000 in
theorem gX10_printAt_X10_printOf : GoodIn wsX10_printAt (wsV RX10 169 RX10 yX10_printOf wsX10_printOf) := goodIn_app (goodIn_of _ (by decide +kernel)) ggX10_printAt_X10_printOf
set_option maxRecDepth 20000 in
theorem ggX10_printAt_X10_p : GoodIn wsX10_printAt wsX10_p := goodIn_ca (goodIn_r _ [15, 7, 23, 24, 25, 26, 27, 28, 29, 30, 31, 32, 33, 34, 35, 36, 37, 38, 39, 40] (by decide +kernel) (by decide +kernel)) (goodIn_sub (fun _ h => List.mem_cons_of_mem _ (List.mem_append_right _ h)) (by decide +kernel))
set_option maxRecDepth 20000 in
theorem gX10_printAt_X10_p : GoodIn wsX10_printAt (wsV RX10 56 RX10 yX10_p wsX10_p) := goodIn_app (goodIn_of _ (by decide +kernel)) ggX10_printAt_X10_p
theorem dX10_printAt_0 : decode cX10_printAt 0 = .ok (.aload_n 0, 1) := by decide +kernel
theorem dX10_printAt_1 : decode cX10_printAt 1 = .ok (.aload_n 0, 1) := by decide +kernel
theorem dX10_printAt_2 : decode cX10_printAt 2 = .ok (.iload_n 1, 1) := by decide +kernel
theorem dX10_printAt_3 : decode cX10_printAt 3 = .ok (.invokevirtual 79, 3) := by decide +kernel
theorem dX10_printAt_6 : decode cX10_printAt 6 = .ok (.ifCond .ge 7, 3) := by decide +kernel
theorem dX10_printAt_9 : decode cX10_printAt 9 = .ok (.iconst 1, 1) := by decide +kernel
theorem dX10_printAt_10 : decode cX10_printAt 10 = .ok (.goto 23, 3) := by decide +kernel
theorem dX10_printAt_13 : decode cX10_printAt 13 = .ok (.iload_n 2, 1) := by decide +kernel
theorem dX10_printAt_14 : decode cX10_printAt 14 = .ok (.iconst 0, 1) := by decide +kernel
theorem dX10_printAt_15 : decode cX10_printAt 15 = .ok (.aload_n 0, 1) := by decide +kernel
theorem dX10_printAt_16 : decode cX10_printAt 16 = .ok (.iload_n 1, 1) := by decide +kernel
theorem dX10_printAt_17 : decode cX10_printAt 17 = .ok (.invokevirtual 107, 3) := by decide +kernel
theorem dX10_printAt_20 : decode cX10_printAt 20 = .ok (.iconst 1, 1) := by decide +kernel
theorem dX10_printAt_21 : decode cX10_printAt 21 = .ok (.isub, 1) := by decide +kernel
theorem dX10_printAt_22 : decode cX10_printAt 22 = .ok (.invokestatic 60, 3) := by decide +kernel
theorem dX10_printAt_25 : decode cX10_printAt 25 = .ok (.ifCond .eq 7, 3) := by decide +kernel
theorem dX10_printAt_28 : decode cX10_printAt 28 = .ok (.iconst 0, 1) := by decide +kernel
theorem dX10_printAt_29 : decode cX10_printAt 29 = .ok (.goto 4, 3) := by decide +kernel
theorem dX10_printAt_32 : decode cX10_printAt 32 = .ok (.iconst 2, 1) := by decide +kernel
theorem dX10_printAt_33 : decode cX10_printAt 33 = .ok (.putfield 27, 3) := by decide +kernel
theorem dX10_printAt_36 : decode cX10_printAt 36 = .ok (.aload_n 0, 1) := by decide +kernel
theorem dX10_printAt_37 : decode cX10_printAt 37 = .ok (.getfield 27, 3) := by decide +kernel
theorem dX10_printAt_40 : decode cX10_printAt 40 = .ok (.ifCond .ne 17, 3) := by decide +kernel
theorem dX10_printAt_43 : decode cX10_printAt 43 = .ok (.aload_n 0, 1) := by decide +kernel
theorem dX10_printAt_44 : decode cX10_printAt 44 = .ok (.aload_n 0, 1) := by decide +kernel
theorem dX10_printAt_45 : decode cX10_printAt 45 = .ok (.iload_n 1, 1) := by decide +kernel
theorem dX10_printAt_46 : decode cX10_printAt 46 = .ok (.iload_n 2, 1) := by decide +kernel
theorem dX10_printAt_47 : decode cX10_printAt 47 = .ok (.invokevirtual 169, 3) := by decide +kernel
theorem dX10_printAt_50 : decode cX10_printAt 50 = .ok (.iconst 0, 1) := by decide +kernel
theorem dX10_printAt_51 : decode cX10_printAt 51 = .ok (.invokevirtual 56, 3) := by decide +kernel
theorem dX10_printAt_54 : decode cX10_printAt 54 = .ok (.goto 4, 3) := by decide +kernel
theorem dX10_printAt_57 : decode cX10_printAt 57 = .ok (.iconst 0, 1) := by decide +kernel
theorem dX10_printAt_58 : decode cX10_printAt 58 = .ok (.ireturn, 1) := by decide +kernel
set_option maxRecDepth 20000 in
theorem ggX10_trackLength_X10_findTrack : GoodIn wsX10_trackLength wsX10_findTrack := goodIn_ca (goodIn_r _ [5, 6, 35, 36, 37, 38, 39, 40, 41, 42, 43, 44, 45, 46, 47, 48, 49, 50, 51, 52] (by decide +kernel) (by decide +kernel)) (goodIn_sub (fun _ h => List.mem_cons_of_mem _ (List.mem_append_right _ h)) (by decide +kernel))
set_option maxRecDepth 20000 in
theorem gX10_trackLength_X10_findTrack : GoodIn wsX10_trackLength (wsV RX10 79 RX10 yX10_findTrack wsX10_findTrack) := goodIn_app (goodIn_of _ (by decide +kernel)) ggX10_trackLength_X10_findTrack
set_option maxRecDepth 20000 in
theorem ggX10_trackLength_X10_isFine : GoodIn wsX10_trackLength wsX10_isFine := goodIn_r _ [10, 11, 35, 36, 37, 38, 39, 40, 41, 42, 43, 44, 45, 46, 47, 48, 49, 50, 51, 52] (by decide +kernel) (by decide +kernel)
set_option maxRecDepth 20000 in
theorem gX10_trackLength_X10_isFine : GoodIn wsX10_trackLength (wsV RX10 49 RX10 yX10_isFine wsX10_isFine) := goodIn_app (goodIn_of _ (by decide +kernel)) ggX10_trackLength_X10_isFine
set_option maxRecDepth 20000 in
theorem ggX10_trackLength_X10_lengthOf : GoodIn wsX10_trackLength wsX10_lengthOf := goodIn_ca (goodIn_r _ [15, 6, 16, 17, 18, 4, 19, 20, 21, 22, 23, 24, 25, 26, 27, 28, 29, 30, 31, 32, 33, 34, 35, 36, 37, 38, 39, 40, 41, 42, 43, 44, 45, 46, 47, 48, 49, 50, 51, 52] (by decide +kernel) (by decide +kernel)) (goodIn_sub (fun _ h => List.mem_cons_of_mem _ (List.mem_append_right _ h)) (by decide +kernel))
set_option maxRecDepth 20000 in
theorem gX10_trackLength_X10_lengthOf : GoodIn wsX10_trackLength (wsV RX10 172 RX10 yX10_lengthOf wsX10_lengthOf) := goodIn_app (goodIn_of _ (by decide +kernel)) ggX10_trackLength_X10_lengthOf
theorem dX10_trackLength_0 : decode cX10_trackLength 0 = .ok (.aload_n 0, 1) := by decide +kernel
theorem dX10_trackLength_1 : decode cX10_trackLength 1 = .ok (.aload_n 0, 1) := by decide +kernel
theorem dX10_trackLength_2 : decode cX10_trackLength 2 = .ok (.iload_n 1, 1) := by decide +kernel
theorem dX10_trackLength_3 : decode cX10_trackLength 3 = .ok (.invokevirtual 79, 3) := by decide +kernel
theorem dX10_trackLength_6 : decode cX10_trackLength 6 = .ok (.ifCond .lt 7, 3) := by decide +kernel
theorem dX10_trackLength_9 : decode cX10_trackLength 9 = .ok (.iconst 1, 1) := by decide +kernel
theorem dX10_trackLength_10 : decode cX10_trackLength 10 = .ok (.goto 4, 3) := by decide +kernel
theorem dX10_trackLength_13 : decode cX10_trackLength 13 = .ok (.iconst 0, 1) := by decide +kernel
theorem dX10_trackLength_14 : decode cX10_trackLength 14 = .ok (.invokevirtual 49, 3) := by decide +kernel
theorem dX10_trackLength_17 : decode cX10_trackLength 17 = .ok (.ifCond .eq 11, 3) := by decide +kernel
theorem dX10_trackLength_20 : decode cX10_trackLength 20 = .ok (.aload_n 0, 1) := by decide +kernel
theorem dX10_trackLength_21 : decode cX10_trackLength 21 = .ok (.iload_n 1, 1) := by decide +kernel
theorem dX10_trackLength_22 : decode cX10_trackLength 22 = .ok (.invokevirtual 172, 3) := by decide +kernel
theorem dX10_trackLength_25 : decode cX10_trackLength 25 = .ok (.goto 4, 3) := by decide +kernel
theorem dX10_trackLength_28 : decode cX10_trackLength 28 = .ok (.iconst 0, 1) := by decide +kernel
theorem dX10_trackLength_29 : decode cX10_trackLength 29 = .ok (.ireturn, 1) := by decide +kernel
set_option maxRecDepth 20000 in
theorem ggX10_trackLengthAgain_X10_trackLength : GoodIn wsX10_trackLengthAgain wsX10_trackLength := goodIn_ca (goodIn_r _ [5, 6, 7, 8, 4, 9, 10, 11, 12, 13, 14, 15, 16, 17, 18, 19, 20, 21, 22, 23, 24, 25, 26, 27, 28, 29, 30, 31, 32, 33, 34, 35, 36, 37, 38, 39, 40, 41, 42, 43, 44, 45, 46, 47, 48, 49, 50, 51, 52, 53, 54, 55, 56] (by decide +kernel) (by decide +kernel)) (goodIn_sub (fun _ h => List.mem_cons_of_mem _ (List.mem_append_right _ h)) (by decide +kernel))
set_option maxRecDepth 20000 in
theorem gX10_trackLengthAgain_X10_trackLength : GoodIn wsX10_trackLengthAgain (wsV RX10 175 RX10 yX10_trackLength wsX10_trackLength) := goodIn_app (goodIn_of _ (by decide +kernel)) ggX10_trackLengthAgain_X10_trackLength
theorem dX10_trackLengthAgain_0 : decode cX10_trackLengthAgain 0 = .ok (.aload_n 0, 1) := by decide +kernel
theorem dX10_trackLengthAgain_1 : decode cX10_trackLengthAgain 1 = .ok (.iload_n 1, 1) := by decide +kernel
theorem dX10_trackLengthAgain_2 : decode cX10_trackLengthAgain 2 = .ok (.invokevirtual 175, 3) := by decide +kernel
theorem dX10_trackLengthAgain_5 : decode cX10_trackLengthAgain 5 = .ok (.ireturn, 1) := by decide +kernel
set_option maxRecDepth 20000 in
theorem ggX10_errorCount_X10_findTrack : GoodIn wsX10_errorCount wsX10_findTrack := goodIn_ca (goodIn_r _ [5, 6, 43, 44, 45, 46, 47, 48, 49, 50, 51, 52, 53, 54, 55, 56, 57, 58, 59, 60] (by decide +kernel) (by decide +kernel)) (goodIn_sub (fun _ h => List.mem_cons_of_mem _ (List.mem_append_right _ h)) (by decide +kernel))
set_option maxRecDepth 20000 in
theorem gX10_errorCount_X10_findTrack : GoodIn wsX10_errorCount (wsV RX10 79 RX10 yX10_findTrack wsX10_findTrack) := goodIn_app (goodIn_of _ (by decide +kernel)) ggX10_errorCount_X10_findTrack
set_option maxRecDepth 20000 in
theorem ggX10_errorCount_X10_isFine : GoodIn wsX10_errorCount wsX10_isFine := goodIn_r _ [10, 11, 43, 44, 45, 46, 47, 48, 49, 50, 51, 52, 53, 54, 55, 56, 57, 58, 59, 60] (by decide +kernel) (by decide +kernel)
set_option maxRecDepth 20000 in
theorem gX10_errorCount_X10_isFine : GoodIn wsX10_errorCount (wsV RX10 49 RX10 yX10_isFine wsX10_isFine) := goodIn_app (goodIn_of _ (by decide +kernel)) ggX10_errorCount_X10_isFine
set_option maxRecDepth 20000 in
theorem ggX10_errorCount_X10_errorsOf : GoodIn wsX10_errorCount wsX10_errorsOf := goodIn_ca (goodIn_r _ [15, 6, 16, 17, 18, 4, 19, 20, 21, 22, 23, 24, 25, 26, 27, 28, 29, 30, 31, 32, 33, 34, 35, 36, 37, 38, 39, 40, 41, 42, 1, 2, 3, 5, 43, 44, 45, 46, 47, 48, 49, 50, 51, 52, 53, 54, 55, 56, 57, 58, 59, 60] (by decide +kernel) (by decide +kernel)) (goodIn_sub (fun _ h => List.mem_cons_of_mem _ (List.mem_append_right _ h)) (by decide +kernel))
set_option maxRecDepth 20000 in
theorem gX10_errorCount_X10_errorsOf : GoodIn wsX10_errorCount (wsV RX10 178 RX10 yX10_errorsOf wsX10_errorsOf) := goodIn_app (goodIn_of _ (by decide +kernel)) ggX10_errorCount_X10_errorsOf
theorem dX10_errorCount_0 : decode cX10_errorCount 0 = .ok (.aload_n 0, 1) := by decide +kernel
theorem dX10_errorCount_1 : decode cX10_errorCount 1 = .ok (.aload_n 0, 1) := by decide +kernel
theorem dX10_errorCount_2 : decode cX10_errorCount 2 = .ok (.iload_n 1, 1) := by decide +kernel
theorem dX10_errorCount_3 : decode cX10_errorCount 3 = .ok (.invokevirtual 79, 3) := by decide +kernel
theorem dX10_errorCount_6 : decode cX10_errorCount 6 = .ok (.ifCond .lt 7, 3) := by decide +kernel
theorem dX10_errorCount_9 : decode cX10_errorCount 9 = .ok (.iconst 1, 1) := by decide +kernel
theorem dX10_errorCount_10 : decode cX10_errorCount 10 = .ok (.goto 4, 3) := by decide +kernel
theorem dX10_errorCount_13 : decode cX10_errorCount 13 = .ok (.iconst 0, 1) := by decide +kernel
theorem dX10_errorCount_14 : decode cX10_errorCount 14 = .ok (.invokevirtual 49, 3) := by decide +kernel
theorem dX10_errorCount_17 : decode cX10_errorCount 17 = .ok (.ifCond .eq 11, 3) := by decide +kernel
theorem dX10_errorCount_20 : decode cX10_errorCount 20 = .ok (.aload_n 0, 1) := by decide +kernel
theorem dX10_errorCount_21 : decode cX10_errorCount 21 = .ok (.iload_n 1, 1) := by decide +kernel
theorem dX10_errorCount_22 : decode cX10_errorCount 22 = .ok (.invokevirtual 178, 3) := by decide +kernel
theorem dX10_errorCount_25 : decode cX10_errorCount 25 = .ok (.goto 4, 3) := by decide +kernel
theorem dX10_errorCount_28 : decode cX10_errorCount 28 = .ok (.iconst 0, 1) := by decide +kernel
theorem dX10_errorCount_29 : decode cX10_errorCount 29 = .ok (.ireturn, 1) := by decide +kernel
set_option maxRecDepth 20000 in
theorem ggX10_errorCountAgain_X10_errorCount : GoodIn wsX10_errorCountAgain wsX10_errorCount := goodIn_ca (goodIn_r _ [5, 6, 7, 8, 4, 9, 10, 11, 12, 13, 14, 15, 16, 17, 18, 19, 20, 21, 22, 23, 24, 25, 26, 27, 28, 29, 30, 31, 32, 33, 34, 35, 36, 37, 38, 39, 40, 41, 42, 43, 44, 45, 46, 47, 48, 49, 50, 51, 52, 53, 54, 55, 56, 57, 58, 59, 60, 61, 62, 63, 64] (by decide +kernel) (by decide +kernel)) (goodIn_sub (fun _ h => List.mem_cons_of_mem _ (List.mem_append_right _ h)) (by decide +kernel))
set_option maxRecDepth 20000 in
theorem gX10_errorCountAgain_X10_errorCount : GoodIn wsX10_errorCountAgain (wsV RX10 181 RX10 yX10_errorCount wsX10_errorCount) := goodIn_app (goodIn_of _ (by decide +kernel)) ggX10_errorCountAgain_X10_errorCount
theorem dX10_errorCountAgain_0 : decode cX10_errorCountAgain 0 = .ok (.aload_n 0, 1) := by decide +kernel
theorem dX10_errorCountAgain_1 : decode cX10_errorCountAgain 1 = .ok (.iload_n 1, 1) := by decide +kernel
theorem dX10_errorCountAgain_2 : decode cX10_errorCountAgain 2 = .ok (.invokevirtual 181, 3) := by decide +kernel
theorem dX10_errorCountAgain_5 : decode cX10_errorCountAgain 5 = .ok (.ireturn, 1) := by decide +kernel
set_option maxRecDepth 20000 in
theorem ggX10_duration_X10_countOf : GoodIn wsX10_duration wsX10_countOf := goodIn_ca (goodIn_r _ [6, 7, 8, 9, 10, 5, 11, 20, 21, 22, 23, 24, 25, 26, 27, 28, 29, 30, 31, 32, 33, 34, 35, 36, 37] (by decide +kernel) (by decide +kernel)) (goodIn_sub (fun _ h => List.mem_cons_of_mem _ (List.mem_append_right _ h)) (by decide +kernel))
set_option maxRecDepth 20000 in
theorem gX10_duration_X10_countOf : GoodIn wsX10_duration (wsV RX10 107 RX10 yX10_countOf wsX10_countOf) := goodIn_app (goodIn_of _ (by decide +kernel)) ggX10_duration_X10_countOf
set_option maxRecDepth 20000 in
theorem ggX10_duration_X10_findTrack : GoodIn wsX10_duration wsX10_findTrack := goodIn_ca (goodIn_r _ [15, 7, 20, 21, 22, 23, 24, 25, 26, 27, 28, 29, 30, 31, 32, 33, 34, 35, 36, 37] (by decide +kernel) (by decide +kernel)) (goodIn_sub (fun _ h => List.mem_cons_of_mem _ (List.mem_append_right _ h)) (by decide +kernel))
set_option maxRecDepth 20000 in
theorem gX10_duration_X10_findTrack : GoodIn wsX10_duration (wsV RX10 79 RX10 yX10_findTrack wsX10_findTrack) := goodIn_app (goodIn_of _ (by decide +kernel)) ggX10_duration_X10_findTrack
set_option maxRecDepth 20000 in
theorem ggX10_duration_X10_printOf : GoodIn wsX10_duration wsX10_printOf := goodIn_ca (goodIn_r _ [19, 7, 8, 9, 10, 5, 11, 20, 21, 22, 23, 24, 25, 26, 27, 28, 29, 30, 31, 32, 33, 34, 35, 36, 37] (by decide +kernel) (by decide +kernel)) (goodIn_sub (fun _ h => List.mem_cons_of_mem _ (List.mem_append_right _ h)) (by decide +kernel))
set_option maxRecDepth 20000 in
theorem gX10_duration_X10_printOf : GoodIn wsX10_duration (wsV RX10 169 RX10 yX10_printOf wsX10_printOf) := goodIn_app (goodIn_of _ (by decide +kernel)) ggX10_duration_X10_printOf
set_option maxRecDepth 20000 in
theorem ggX10_duration_X10_p : GoodIn wsX10_duration wsX10_p := goodIn_ca (goodIn_r _ [11, 7, 20, 21, 22, 23, 24, 25, 26, 27, 28, 29, 30, 31, 32, 33, 34, 35, 36, 37] (by decide +kernel) (by decide +kernel)) (goodIn_sub (fun _ h => List.mem_cons_of_mem _ (List.mem_append_right _ h)) (by decide +kernel))
set_option maxRecDepth 20000 in
theorem gX10_duration_X10_p : GoodIn wsX10_duration (wsV RX10 56 RX10 yX10_p wsX10_p) := goodIn_app (goodIn_of _ (by decide +kernel)) ggX10_duration_X10_p
theorem dX10_duration_0 : decode cX10_duration 0 = .ok (.aload_n 0, 1) := by decide +kernel
theorem dX10_duration_1 : decode cX10_duration 1 = .ok (.iload_n 1, 1) := by decide +kernel
theorem dX10_duration_2 : decode cX10_duration 2 = .ok (.invokevirtual 107, 3) := by decide +kernel
theorem dX10_duration_5 : decode cX10_duration 5 = .ok (.istore_n 2, 1) := by decide +kernel
theorem dX10_duration_6 : decode cX10_duration 6 = .ok (.aload_n 0, 1) := by decide +kernel
theorem dX10_duration_7 : decode cX10_duration 7 = .ok (.aload_n 0, 1) := by decide +kernel
theorem dX10_duration_8 : decode cX10_duration 8 = .ok (.iload_n 1, 1) := by decide +kernel
theorem dX10_duration_9 : decode cX10_duration 9 = .ok (.invokevirtual 79, 3) := by decide +kernel
theorem dX10_duration_12 : decode cX10_duration 12 = .ok (.ifCond .ge 7, 3) := by decide +kernel
theorem dX10_duration_15 : decode cX10_duration 15 = .ok (.iconst 1, 1) := by decide +kernel
theorem dX10_duration_16 : decode cX10_duration 16 = .ok (.goto 12, 3) := by decide +kernel
theorem dX10_duration_19 : decode cX10_duration 19 = .ok (.iload_n 2, 1) := by decide +kernel
theorem dX10_duration_20 : decode cX10_duration 20 = .ok (.ifCond .ne 7, 3) := by decide +kernel
theorem dX10_duration_23 : decode cX10_duration 23 = .ok (.iconst 2, 1) := by decide +kernel
theorem dX10_duration_24 : decode cX10_duration 24 = .ok (.goto 4, 3) := by decide +kernel
theorem dX10_duration_27 : decode cX10_duration 27 = .ok (.iconst 0, 1) := by decide +kernel
theorem dX10_duration_28 : decode cX10_duration 28 = .ok (.putfield 27, 3) := by decide +kernel
theorem dX10_duration_31 : decode cX10_duration 31 = .ok (.aload_n 0, 1) := by decide +kernel
theorem dX10_duration_32 : decode cX10_duration 32 = .ok (.getfield 27, 3) := by decide +kernel
theorem dX10_duration_35 : decode cX10_duration 35 = .ok (.ifCond .ne 31, 3) := by decide +kernel
theorem dX10_duration_38 : decode cX10_duration 38 = .ok (.aload_n 0, 1) := by decide +kernel
theorem dX10_duration_39 : decode cX10_duration 39 = .ok (.aload_n 0, 1) := by decide +kernel
theorem dX10_duration_40 : decode cX10_duration 40 = .ok (.iload_n 1, 1) := by decide +kernel
theorem dX10_duration_41 : decode cX10_duration 41 = .ok (.iload_n 2, 1) := by decide +kernel
theorem dX10_duration_42 : decode cX10_duration 42 = .ok (.iconst 1, 1) := by decide +kernel
theorem dX10_duration_43 : decode cX10_duration 43 = .ok (.isub, 1) := by decide +kernel
theorem dX10_duration_44 : decode cX10_duration 44 = .ok (.invokevirtual 169, 3) := by decide +kernel
theorem dX10_duration_47 : decode cX10_duration 47 = .ok (.iconst 2, 1) := by decide +kernel
theorem dX10_duration_48 : decode cX10_duration 48 = .ok (.invokevirtual 56, 3) := by decide +kernel
theorem dX10_duration_51 : decode cX10_duration 51 = .ok (.aload_n 0, 1) := by decide +kernel
theorem dX10_duration_52 : decode cX10_duration 52 = .ok (.aload_n 0, 1) := by decide +kernel
theorem dX10_duration_53 : decode cX10_duration 53 = .ok (.iload_n 1, 1) := by decide +kernel
theorem dX10_duration_54 : decode cX10_duration 54 = .ok (.iconst 0, 1) := by decide +kernel
theorem dX10_duration_55 : decode cX10_duration 55 = .ok (.invokevirtual 169, 3) := by decide +kernel
theorem dX10_duration_58 : decode cX10_duration 58 = .ok (.iconst 2, 1) := by decide +kernel
theorem dX10_duration_59 : decode cX10_duration 59 = .ok (.invokevirtual 56, 3) := by decide +kernel
theorem dX10_duration_62 : decode cX10_duration 62 = .ok (.isub, 1) := by decide +kernel
theorem dX10_duration_63 : decode cX10_duration 63 = .ok (.goto 4, 3) := by decide +kernel
theorem dX10_duration_66 : decode cX10_duration 66 = .ok (.iconst 0, 1) := by decide +kernel
theorem dX10_duration_67 : decode cX10_duration 67 = .ok (.ireturn, 1) := by decide +kernel
set_option maxRecDepth 20000 in
theorem ggX10_averageStride_X10_countOf : GoodIn wsX10_averageStride wsX10_countOf := goodIn_ca (goodIn_r _ [6, 7, 8, 9, 10, 5, 11, 35, 36, 37, 38, 39, 40, 41, 42, 43, 44, 45, 46, 47, 48, 49, 50, 51, 52] (by decide +kernel) (by decide +kernel)) (goodIn_sub (fun _ h => List.mem_cons_of_mem _ (List.mem_append_right _ h)) (by decide +kernel))
set_option maxRecDepth 20000 in
theorem gX10_averageStride_X10_countOf : GoodIn wsX10_averageStride (wsV RX10 107 RX10 yX10_countOf wsX10_countOf) := goodIn_app (goodIn_of _ (by decide +kernel)) ggX10_averageStride_X10_countOf
set_option maxRecDepth 20000 in
theorem ggX10_averageStride_X10_findTrack : GoodIn wsX10_averageStride wsX10_findTrack := goodIn_ca (goodIn_r _ [15, 7, 35, 36, 37, 38, 39, 40, 41, 42, 43, 44, 45, 46, 47, 48, 49, 50, 51, 52] (by decide +kernel) (by decide +kernel)) (goodIn_sub (fun _ h => List.mem_cons_of_mem _ (List.mem_append_right _ h)) (by decide +kernel))
set_option maxRecDepth 20000 in
theorem gX10_averageStride_X10_findTrack : GoodIn wsX10_averageStride (wsV RX10 79 RX10 yX10_findTrack wsX10_findTrack) := goodIn_app (goodIn_of _ (by decide +kernel)) ggX10_averageStride_X10_findTrack
set_option maxRecDepth 20000 in
theorem ggX10_averageStride_X10_lengthOf : GoodIn wsX10_averageStride wsX10_lengthOf := goodIn_ca (goodIn_r _ [19, 7, 8, 9, 10, 5, 11, 20, 21, 22, 23, 24, 25, 26, 27, 28, 29, 30, 31, 32, 33, 34, 35, 36, 37, 38, 39, 40, 41, 42, 43, 44, 45, 46, 47, 48, 49, 50, 51, 52] (by decide +kernel) (by decide +kernel)) (goodIn_sub (fun _ h => List.mem_cons_of_mem _ (List.mem_append_right _ h)) (by decide +kernel))
set_option maxRecDepth 20000 in
theorem gX10_averageStride_X10_lengthOf : GoodIn wsX10_averageStride (wsV RX10 172 RX10 yX10_lengthOf wsX10_lengthOf) := goodIn_app (goodIn_of _ (by decide +kernel)) ggX10_averageStride_X10_lengthOf
theorem dX10_averageStride_0 : decode cX10_averageStride 0 = .ok (.aload_n 0, 1) := by decide +kernel
theorem dX10_averageStride_1 : decode cX10_averageStride 1 = .ok (.iload_n 1, 1) := by decide +kernel
theorem dX10_averageStride_2 : decode cX10_averageStride 2 = .ok (.invokevirtual 107, 3) := by decide +kernel
theorem dX10_averageStride_5 : decode cX10_averageStride 5 = .ok (.istore_n 2, 1) := by decide +kernel
theorem dX10_averageStride_6 : decode cX10_averageStride 6 = .ok (.aload_n 0, 1) := by decide +kernel
theorem dX10_averageStride_7 : decode cX10_averageStride 7 = .ok (.aload_n 0, 1) := by decide +kernel
theorem dX10_averageStride_8 : decode cX10_averageStride 8 = .ok (.iload_n 1, 1) := by decide +kernel
theorem dX10_averageStride_9 : decode cX10_averageStride 9 = .ok (.invokevirtual 79, 3) := by decide +kernel
theorem dX10_averageStride_12 : decode cX10_averageStride 12 = .ok (.ifCond .ge 7, 3) := by decide +kernel
theorem dX10_averageStride_15 : decode cX10_averageStride 15 = .ok (.iconst 1, 1) := by decide +kernel
theorem dX10_averageStride_16 : decode cX10_averageStride 16 = .ok (.goto 13, 3) := by decide +kernel
theorem dX10_averageStride_19 : decode cX10_averageStride 19 = .ok (.iload_n 2, 1) := by decide +kernel
theorem dX10_averageStride_20 : decode cX10_averageStride 20 = .ok (.iconst 2, 1) := by decide +kernel
theorem dX10_averageStride_21 : decode cX10_averageStride 21 = .ok (.if_icmp .ge 7, 3) := by decide +kernel
theorem dX10_averageStride_24 : decode cX10_averageStride 24 = .ok (.iconst 2, 1) := by decide +kernel
theorem dX10_averageStride_25 : decode cX10_averageStride 25 = .ok (.goto 4, 3) := by decide +kernel
theorem dX10_averageStride_28 : decode cX10_averageStride 28 = .ok (.iconst 0, 1) := by decide +kernel
theorem dX10_averageStride_29 : decode cX10_averageStride 29 = .ok (.putfield 27, 3) := by decide +kernel
theorem dX10_averageStride_32 : decode cX10_averageStride 32 = .ok (.aload_n 0, 1) := by decide +kernel
theorem dX10_averageStride_33 : decode cX10_averageStride 33 = .ok (.getfield 27, 3) := by decide +kernel
theorem dX10_averageStride_36 : decode cX10_averageStride 36 = .ok (.ifCond .ne 17, 3) := by decide +kernel
theorem dX10_averageStride_39 : decode cX10_averageStride 39 = .ok (.aload_n 0, 1) := by decide +kernel
theorem dX10_averageStride_40 : decode cX10_averageStride 40 = .ok (.iload_n 1, 1) := by decide +kernel
theorem dX10_averageStride_41 : decode cX10_averageStride 41 = .ok (.invokevirtual 172, 3) := by decide +kernel
theorem dX10_averageStride_44 : decode cX10_averageStride 44 = .ok (.i2d, 1) := by decide +kernel
theorem dX10_averageStride_45 : decode cX10_averageStride 45 = .ok (.iload_n 2, 1) := by decide +kernel
theorem dX10_averageStride_46 : decode cX10_averageStride 46 = .ok (.iconst 1, 1) := by decide +kernel
theorem dX10_averageStride_47 : decode cX10_averageStride 47 = .ok (.isub, 1) := by decide +kernel
theorem dX10_averageStride_48 : decode cX10_averageStride 48 = .ok (.i2d, 1) := by decide +kernel
theorem dX10_averageStride_49 : decode cX10_averageStride 49 = .ok (.ddiv, 1) := by decide +kernel
theorem dX10_averageStride_50 : decode cX10_averageStride 50 = .ok (.goto 4, 3) := by decide +kernel
theorem dX10_averageStride_53 : decode cX10_averageStride 53 = .ok (.dconst 0, 1) := by decide +kernel
theorem dX10_averageStride_54 : decode cX10_averageStride 54 = .ok (.dreturn, 1) := by decide +kernel
set_option maxRecDepth 20000 in
theorem ggX10_errorsThere_X10_p : GoodIn wsX10_errorsThere wsX10_p := goodIn_ca (goodIn_r _ [5, 6, 42, 43, 44, 45, 46, 47, 48, 49, 50, 51, 52, 53, 54, 55, 56, 57, 58, 59] (by decide +kernel) (by decide +kernel)) (goodIn_sub (fun _ h => List.mem_cons_of_mem _ (List.mem_append_right _ h)) (by decide +kernel))
set_option maxRecDepth 20000 in
theorem gX10_errorsThere_X10_p : GoodIn wsX10_errorsThere (wsV RX10 56 RX10 yX10_p wsX10_p) := goodIn_app (goodIn_of _ (by decide +kernel)) ggX10_errorsThere_X10_p
set_option maxRecDepth 20000 in
theorem ggX10_errorsThere_X10_set : GoodIn wsX10_errorsThere wsX10_set := goodIn_ca (goodIn_r _ [10, 6, 42, 43, 44, 45, 46, 47, 48, 49, 50, 51, 52, 53, 54, 55, 56, 57, 58, 59] (by decide +kernel) (by decide +kernel)) (goodIn_sub (fun _ h => List.mem_cons_of_mem _ (List.mem_append_right _ h)) (by decide +kernel))
set_option maxRecDepth 20000 in
theorem gX10_errorsThere_X10_set : GoodIn wsX10_errorsThere (wsV RX10 103 RX10 yX10_set wsX10_set) := goodIn_app (goodIn_of _ (by decide +kernel)) ggX10_errorsThere_X10_set
set_option maxRecDepth 20000 in
theorem ggX10_errorsThere_X10_errorsOf : GoodIn wsX10_errorsThere wsX10_errorsOf := goodIn_ca (goodIn_r _ [14, 6, 1, 2, 3, 4, 5, 15, 16, 17, 18, 19, 20, 21, 22, 23, 24, 25, 26, 27, 28, 29, 30, 31, 32, 33, 34, 35, 36, 37, 38, 39, 40, 41, 42, 43, 44, 45, 46, 47, 48, 49, 50, 51, 52, 53, 54, 55, 56, 57, 58, 59] (by decide +kernel) (by decide +kernel)) (goodIn_sub (fun _ h => List.mem_cons_of_mem _ (List.mem_append_right _ h)) (by decide +kernel))
set_option maxRecDepth 20000 in
theorem gX10_errorsThere_X10_errorsOf : GoodIn wsX10_errorsThere (wsV RX10 178 RX10 yX10_errorsOf wsX10_errorsOf) := goodIn_app (goodIn_of _ (by decide +kernel)) ggX10_errorsThere_X10_errorsOf
theorem dX10_errorsThere_0 : decode cX10_errorsThere 0 = .ok (.aload_n 0, 1) := by decide +kernel
theorem dX10_errorsThere_1 : decode cX10_errorsThere 1 = .ok (.iload_n 1, 1) := by decide +kernel
theorem dX10_errorsThere_2 : decode cX10_errorsThere 2 = .ok (.iconst 3, 1) := by decide +kernel
theorem dX10_errorsThere_3 : decode cX10_errorsThere 3 = .ok (.invokevirtual 56, 3) := by decide +kernel
theorem dX10_errorsThere_6 : decode cX10_errorsThere 6 = .ok (.istore 4, 2) := by decide +kernel
theorem dX10_errorsThere_8 : decode cX10_errorsThere 8 = .ok (.aload_n 0, 1) := by decide +kernel
theorem dX10_errorsThere_9 : decode cX10_errorsThere 9 = .ok (.iload_n 1, 1) := by decide +kernel
theorem dX10_errorsThere_10 : decode cX10_errorsThere 10 = .ok (.iconst 4, 1) := by decide +kernel
theorem dX10_errorsThere_11 : decode cX10_errorsThere 11 = .ok (.invokevirtual 56, 3) := by decide +kernel
theorem dX10_errorsThere_14 : decode cX10_errorsThere 14 = .ok (.istore 5, 2) := by decide +kernel
theorem dX10_errorsThere_16 : decode cX10_errorsThere 16 = .ok (.aload_n 0, 1) := by decide +kernel
theorem dX10_errorsThere_17 : decode cX10_errorsThere 17 = .ok (.iload_n 1, 1) := by decide +kernel
theorem dX10_errorsThere_18 : decode cX10_errorsThere 18 = .ok (.iconst 3, 1) := by decide +kernel
theorem dX10_errorsThere_19 : decode cX10_errorsThere 19 = .ok (.iload_n 2, 1) := by decide +kernel
theorem dX10_errorsThere_20 : decode cX10_errorsThere 20 = .ok (.invokevirtual 103, 3) := by decide +kernel
theorem dX10_errorsThere_23 : decode cX10_errorsThere 23 = .ok (.aload_n 0, 1) := by decide +kernel
theorem dX10_errorsThere_24 : decode cX10_errorsThere 24 = .ok (.iload_n 1, 1) := by decide +kernel
theorem dX10_errorsThere_25 : decode cX10_errorsThere 25 = .ok (.iconst 4, 1) := by decide +kernel
theorem dX10_errorsThere_26 : decode cX10_errorsThere 26 = .ok (.iload_n 3, 1) := by decide +kernel
theorem dX10_errorsThere_27 : decode cX10_errorsThere 27 = .ok (.invokevirtual 103, 3) := by decide +kernel
theorem dX10_errorsThere_30 : decode cX10_errorsThere 30 = .ok (.aload_n 0, 1) := by decide +kernel
theorem dX10_errorsThere_31 : decode cX10_errorsThere 31 = .ok (.aload_n 0, 1) := by decide +kernel
theorem dX10_errorsThere_32 : decode cX10_errorsThere 32 = .ok (.iload_n 1, 1) := by decide +kernel
theorem dX10_errorsThere_33 : decode cX10_errorsThere 33 = .ok (.iconst 1, 1) := by decide +kernel
theorem dX10_errorsThere_34 : decode cX10_errorsThere 34 = .ok (.invokevirtual 56, 3) := by decide +kernel
theorem dX10_errorsThere_37 : decode cX10_errorsThere 37 = .ok (.invokevirtual 178, 3) := by decide +kernel
theorem dX10_errorsThere_40 : decode cX10_errorsThere 40 = .ok (.istore 6, 2) := by decide +kernel
theorem dX10_errorsThere_42 : decode cX10_errorsThere 42 = .ok (.aload_n 0, 1) := by decide +kernel
theorem dX10_errorsThere_43 : decode cX10_errorsThere 43 = .ok (.iload_n 1, 1) := by decide +kernel
theorem dX10_errorsThere_44 : decode cX10_errorsThere 44 = .ok (.iconst 3, 1) := by decide +kernel
theorem dX10_errorsThere_45 : decode cX10_errorsThere 45 = .ok (.iload 4, 2) := by decide +kernel
theorem dX10_errorsThere_47 : decode cX10_errorsThere 47 = .ok (.invokevirtual 103, 3) := by decide +kernel
theorem dX10_errorsThere_50 : decode cX10_errorsThere 50 = .ok (.aload_n 0, 1) := by decide +kernel
theorem dX10_errorsThere_51 : decode cX10_errorsThere 51 = .ok (.iload_n 1, 1) := by decide +kernel
theorem dX10_errorsThere_52 : decode cX10_errorsThere 52 = .ok (.iconst 4, 1) := by decide +kernel
theorem dX10_errorsThere_53 : decode cX10_errorsThere 53 = .ok (.iload 5, 2) := by decide +kernel
theorem dX10_errorsThere_55 : decode cX10_errorsThere 55 = .ok (.invokevirtual 103, 3) := by decide +kernel
theorem dX10_errorsThere_58 : decode cX10_errorsThere 58 = .ok (.iload 6, 2) := by decide +kernel
theorem dX10_errorsThere_60 : decode cX10_errorsThere 60 = .ok (.ireturn, 1) := by decide +kernel
set_option maxRecDepth 20000 in
theorem ggX10_errorsIfMoved_X10_find : GoodIn wsX10_errorsIfMoved wsX10_find := goodIn_ca (goodIn_r _ [5, 6, 7, 8, 9, 4, 10, 61, 62, 63, 64, 65, 66, 67, 68, 69, 70, 71, 72, 73, 74, 75, 76, 77, 78] (by decide +kernel) (by decide +kernel)) (goodIn_sub (fun _ h => List.mem_cons_of_mem _ (List.mem_append_right _ h)) (by decide +kernel))
set_option maxRecDepth 20000 in
theorem gX10_errorsIfMoved_X10_find : GoodIn wsX10_errorsIfMoved (wsV RX10 136 RX10 yX10_find wsX10_find) := goodIn_app (goodIn_of _ (by decide +kernel)) ggX10_errorsIfMoved_X10_find
set_option maxRecDepth 20000 in
theorem ggX10_errorsIfMoved_X10_isCell : GoodIn wsX10_errorsIfMoved wsX10_isCell := goodIn_r _ [13, 14, 15, 4, 16] (by decide +kernel) (by decide +kernel)
set_option maxRecDepth 20000 in
theorem gX10_errorsIfMoved_X10_isCell : GoodIn wsX10_errorsIfMoved (va_wsS RX10 117 yX10_isCell wsX10_isCell) := goodIn_app (goodIn_of _ (by decide +kernel)) ggX10_errorsIfMoved_X10_isCell
set_option maxRecDepth 20000 in
theorem ggX10_errorsIfMoved_X10_isFine : GoodIn wsX10_errorsIfMoved wsX10_isFine := goodIn_r _ [20, 21, 61, 62, 63, 64, 65, 66, 67, 68, 69, 70, 71, 72, 73, 74, 75, 76, 77, 78] (by decide +kernel) (by decide +kernel)
set_option maxRecDepth 20000 in
theorem gX10_errorsIfMoved_X10_isFine : GoodIn wsX10_errorsIfMoved (wsV RX10 49 RX10 yX10_isFine wsX10_isFine) := goodIn_app (goodIn_of _ (by decide +kernel)) ggX10_errorsIfMoved_X10_isFine
set_option maxRecDepth 20000 in
theorem ggX10_errorsIfMoved_X10_errorsThere : GoodIn wsX10_errorsIfMoved wsX10_errorsThere := goodIn_ca (goodIn_r _ [25, 7, 8, 9, 4, 10, 6, 26, 27, 28, 29, 30, 31, 32, 33, 34, 35, 36, 37, 38, 39, 40, 41, 42, 43, 44, 45, 46, 47, 48, 49, 50, 51, 52, 53, 54, 55, 56, 57, 58, 59, 60, 61, 62, 63, 64, 65, 66, 67, 68, 69, 70, 71, 72, 73, 74, 75, 76, 77, 78] (by decide +kernel) (by decide +kernel)) (goodIn_sub (fun _ h => List.mem_cons_of_mem _ (List.mem_append_right _ h)) (by decide +kernel))
set_option maxRecDepth 20000 in
theorem gX10_errorsIfMoved_X10_errorsThere : GoodIn wsX10_errorsIfMoved (wsV RX10 184 RX10 yX10_errorsThere wsX10_errorsThere) := goodIn_app (goodIn_of _ (by decide +kernel)) ggX10_errorsIfMoved_X10_errorsThere
theorem dX10_errorsIfMoved_0 : decode cX10_errorsIfMoved 0 = .ok (.aload_n 0, 1) := by decide +kernel
theorem dX10_errorsIfMoved_1 : decode cX10_errorsIfMoved 1 = .ok (.iload_n 1, 1) := by decide +kernel
theorem dX10_errorsIfMoved_2 : decode cX10_errorsIfMoved 2 = .ok (.invokevirtual 136, 3) := by decide +kernel
theorem dX10_errorsIfMoved_5 : decode cX10_errorsIfMoved 5 = .ok (.istore 4, 2) := by decide +kernel
theorem dX10_errorsIfMoved_7 : decode cX10_errorsIfMoved 7 = .ok (.aload_n 0, 1) := by decide +kernel
theorem dX10_errorsIfMoved_8 : decode cX10_errorsIfMoved 8 = .ok (.iload 4, 2) := by decide +kernel
theorem dX10_errorsIfMoved_10 : decode cX10_errorsIfMoved 10 = .ok (.ifCond .lt 15, 3) := by decide +kernel
theorem dX10_errorsIfMoved_13 : decode cX10_errorsIfMoved 13 = .ok (.iload_n 2, 1) := by decide +kernel
theorem dX10_errorsIfMoved_14 : decode cX10_errorsIfMoved 14 = .ok (.iload_n 3, 1) := by decide +kernel
theorem dX10_errorsIfMoved_15 : decode cX10_errorsIfMoved 15 = .ok (.invokestatic 117, 3) := by decide +kernel
theorem dX10_errorsIfMoved_18 : decode cX10_errorsIfMoved 18 = .ok (.ifCond .eq 7, 3) := by decide +kernel
theorem dX10_errorsIfMoved_21 : decode cX10_errorsIfMoved 21 = .ok (.iconst 1, 1) := by decide +kernel
theorem dX10_errorsIfMoved_22 : decode cX10_errorsIfMoved 22 = .ok (.goto 4, 3) := by decide +kernel
theorem dX10_errorsIfMoved_25 : decode cX10_errorsIfMoved 25 = .ok (.iconst 0, 1) := by decide +kernel
theorem dX10_errorsIfMoved_26 : decode cX10_errorsIfMoved 26 = .ok (.invokevirtual 49, 3) := by decide +kernel
theorem dX10_errorsIfMoved_29 : decode cX10_errorsIfMoved 29 = .ok (.ifCond .eq 14, 3) := by decide +kernel
theorem dX10_errorsIfMoved_32 : decode cX10_errorsIfMoved 32 = .ok (.aload_n 0, 1) := by decide +kernel
theorem dX10_errorsIfMoved_33 : decode cX10_errorsIfMoved 33 = .ok (.iload 4, 2) := by decide +kernel
theorem dX10_errorsIfMoved_35 : decode cX10_errorsIfMoved 35 = .ok (.iload_n 2, 1) := by decide +kernel
theorem dX10_errorsIfMoved_36 : decode cX10_errorsIfMoved 36 = .ok (.iload_n 3, 1) := by decide +kernel
theorem dX10_errorsIfMoved_37 : decode cX10_errorsIfMoved 37 = .ok (.invokevirtual 184, 3) := by decide +kernel
theorem dX10_errorsIfMoved_40 : decode cX10_errorsIfMoved 40 = .ok (.goto 4, 3) := by decide +kernel
theorem dX10_errorsIfMoved_43 : decode cX10_errorsIfMoved 43 = .ok (.iconst 0, 1) := by decide +kernel
theorem dX10_errorsIfMoved_44 : decode cX10_errorsIfMoved 44 = .ok (.ireturn, 1) := by decide +kernel
set_option maxRecDepth 20000 in
theorem ggX10_mayMove_X10_distance : GoodIn wsX10_mayMove wsX10_distance := goodIn_ca (goodIn_r _ [6, 7, 8, 9, 5, 10, 1, 11, 12, 13, 21, 22, 23, 24, 25, 26, 27, 28, 29, 30, 31, 32, 33, 34, 35, 36, 37, 38] (by decide +kernel) (by decide +kernel)) (goodIn_sub (fun _ h => List.mem_cons_of_mem _ (List.mem_append_right _ h)) (by decide +kernel))
set_option maxRecDepth 20000 in
theorem gX10_mayMove_X10_distance : GoodIn wsX10_mayMove (wsV RX10 72 RX10 yX10_distance wsX10_distance) := goodIn_app (goodIn_of _ (by decide +kernel)) ggX10_mayMove_X10_distance
set_option maxRecDepth 20000 in
theorem ggX10_mayMove_X10_in : GoodIn wsX10_mayMove wsX10_in := goodIn_r _ [16] (by decide +kernel) (by decide +kernel)
set_option maxRecDepth 20000 in
theorem gX10_mayMove_X10_in : GoodIn wsX10_mayMove (va_wsS RX10 60 yX10_in wsX10_in) := goodIn_app (goodIn_of _ (by decide +kernel)) ggX10_mayMove_X10_in
set_option maxRecDepth 20000 in
theorem ggX10_mayMove_X10_inCell : GoodIn wsX10_mayMove wsX10_inCell := goodIn_ca (goodIn_r _ [20, 1, 7, 8, 9, 5, 10, 21, 22, 23, 24, 25, 26, 27, 28, 29, 30, 31, 32, 33, 34, 35, 36, 37, 38] (by decide +kernel) (by decide +kernel)) (goodIn_sub (fun _ h => List.mem_cons_of_mem _ (List.mem_append_right _ h)) (by decide +kernel))
set_option maxRecDepth 20000 in
theorem gX10_mayMove_X10_inCell : GoodIn wsX10_mayMove (wsV RX10 123 RX10 yX10_inCell wsX10_inCell) := goodIn_app (goodIn_of _ (by decide +kernel)) ggX10_mayMove_X10_inCell
theorem dX10_mayMove_0 : decode cX10_mayMove 0 = .ok (.aload_n 0, 1) := by decide +kernel
theorem dX10_mayMove_1 : decode cX10_mayMove 1 = .ok (.iload_n 1, 1) := by decide +kernel
theorem dX10_mayMove_2 : decode cX10_mayMove 2 = .ok (.iload_n 2, 1) := by decide +kernel
theorem dX10_mayMove_3 : decode cX10_mayMove 3 = .ok (.iload_n 3, 1) := by decide +kernel
theorem dX10_mayMove_4 : decode cX10_mayMove 4 = .ok (.invokevirtual 72, 3) := by decide +kernel
theorem dX10_mayMove_7 : decode cX10_mayMove 7 = .ok (.iconst 1, 1) := by decide +kernel
theorem dX10_mayMove_8 : decode cX10_mayMove 8 = .ok (.iconst 2, 1) := by decide +kernel
theorem dX10_mayMove_9 : decode cX10_mayMove 9 = .ok (.invokestatic 60, 3) := by decide +kernel
theorem dX10_mayMove_12 : decode cX10_mayMove 12 = .ok (.ifCond .eq 26, 3) := by decide +kernel
theorem dX10_mayMove_15 : decode cX10_mayMove 15 = .ok (.iload_n 2, 1) := by decide +kernel
theorem dX10_mayMove_16 : decode cX10_mayMove 16 = .ok (.aload_n 0, 1) := by decide +kernel
theorem dX10_mayMove_17 : decode cX10_mayMove 17 = .ok (.getfield 9, 3) := by decide +kernel
theorem dX10_mayMove_20 : decode cX10_mayMove 20 = .ok (.iconst 4, 1) := by decide +kernel
theorem dX10_mayMove_21 : decode cX10_mayMove 21 = .ok (.iaload, 1) := by decide +kernel
theorem dX10_mayMove_22 : decode cX10_mayMove 22 = .ok (.if_icmp .lt 16, 3) := by decide +kernel
theorem dX10_mayMove_25 : decode cX10_mayMove 25 = .ok (.aload_n 0, 1) := by decide +kernel
theorem dX10_mayMove_26 : decode cX10_mayMove 26 = .ok (.iload_n 2, 1) := by decide +kernel
theorem dX10_mayMove_27 : decode cX10_mayMove 27 = .ok (.iload_n 3, 1) := by decide +kernel
theorem dX10_mayMove_28 : decode cX10_mayMove 28 = .ok (.invokevirtual 123, 3) := by decide +kernel
theorem dX10_mayMove_31 : decode cX10_mayMove 31 = .ok (.ifCond .ge 7, 3) := by decide +kernel
theorem dX10_mayMove_34 : decode cX10_mayMove 34 = .ok (.iconst 1, 1) := by decide +kernel
theorem dX10_mayMove_35 : decode cX10_mayMove 35 = .ok (.goto 4, 3) := by decide +kernel
theorem dX10_mayMove_38 : decode cX10_mayMove 38 = .ok (.iconst 0, 1) := by decide +kernel
theorem dX10_mayMove_39 : decode cX10_mayMove 39 = .ok (.ireturn, 1) := by decide +kernel
set_option maxRecDepth 20000 in
theorem ggX10_canMove_X10_find : GoodIn wsX10_canMove wsX10_find := goodIn_ca (goodIn_r _ [5, 6, 7, 8, 9, 4, 10, 37, 38, 39, 40, 41, 42, 43, 44, 45, 46, 47, 48, 49, 50, 51, 52, 53, 54] (by decide +kernel) (by decide +kernel)) (goodIn_sub (fun _ h => List.mem_cons_of_mem _ (List.mem_append_right _ h)) (by decide +kernel))
set_option maxRecDepth 20000 in
theorem gX10_canMove_X10_find : GoodIn wsX10_canMove (wsV RX10 136 RX10 yX10_find wsX10_find) := goodIn_app (goodIn_of _ (by decide +kernel)) ggX10_canMove_X10_find
set_option maxRecDepth 20000 in
theorem ggX10_canMove_X10_isCell : GoodIn wsX10_canMove wsX10_isCell := goodIn_r _ [13, 14, 15, 4, 16] (by decide +kernel) (by decide +kernel)
set_option maxRecDepth 20000 in
theorem gX10_canMove_X10_isCell : GoodIn wsX10_canMove (va_wsS RX10 117 yX10_isCell wsX10_isCell) := goodIn_app (goodIn_of _ (by decide +kernel)) ggX10_canMove_X10_isCell
set_option maxRecDepth 20000 in
theorem ggX10_canMove_X10_isFine : GoodIn wsX10_canMove wsX10_isFine := goodIn_r _ [20, 21, 37, 38, 39, 40, 41, 42, 43, 44, 45, 46, 47, 48, 49, 50, 51, 52, 53, 54] (by decide +kernel) (by decide +kernel)
set_option maxRecDepth 20000 in
theorem gX10_canMove_X10_isFine : GoodIn wsX10_canMove (wsV RX10 49 RX10 yX10_isFine wsX10_isFine) := goodIn_app (goodIn_of _ (by decide +kernel)) ggX10_canMove_X10_isFine
set_option maxRecDepth 20000 in
theorem ggX10_canMove_X10_mayMove : GoodIn wsX10_canMove wsX10_mayMove := goodIn_ca (goodIn_r _ [25, 6, 26, 27, 28, 4, 29, 7, 8, 9, 10, 30, 31, 32, 14, 15, 16, 33, 34, 35, 36, 37, 38, 39, 40, 41, 42, 43, 44, 45, 46, 47, 48, 49, 50, 51, 52, 53, 54] (by decide +kernel) (by decide +kernel)) (goodIn_sub (fun _ h => List.mem_cons_of_mem _ (List.mem_append_right _ h)) (by decide +kernel))
set_option maxRecDepth 20000 in
theorem gX10_canMove_X10_mayMove : GoodIn wsX10_canMove (wsV RX10 187 RX10 yX10_mayMove wsX10_mayMove) := goodIn_app (goodIn_of _ (by decide +kernel)) ggX10_canMove_X10_mayMove
theorem dX10_canMove_0 : decode cX10_canMove 0 = .ok (.aload_n 0, 1) := by decide +kernel
theorem dX10_canMove_1 : decode cX10_canMove 1 = .ok (.iload_n 1, 1) := by decide +kernel
theorem dX10_canMove_2 : decode cX10_canMove 2 = .ok (.invokevirtual 136, 3) := by decide +kernel
theorem dX10_canMove_5 : decode cX10_canMove 5 = .ok (.istore 4, 2) := by decide +kernel
theorem dX10_canMove_7 : decode cX10_canMove 7 = .ok (.aload_n 0, 1) := by decide +kernel
theorem dX10_canMove_8 : decode cX10_canMove 8 = .ok (.iload 4, 2) := by decide +kernel
theorem dX10_canMove_10 : decode cX10_canMove 10 = .ok (.ifCond .lt 15, 3) := by decide +kernel
theorem dX10_canMove_13 : decode cX10_canMove 13 = .ok (.iload_n 2, 1) := by decide +kernel
theorem dX10_canMove_14 : decode cX10_canMove 14 = .ok (.iload_n 3, 1) := by decide +kernel
theorem dX10_canMove_15 : decode cX10_canMove 15 = .ok (.invokestatic 117, 3) := by decide +kernel
theorem dX10_canMove_18 : decode cX10_canMove 18 = .ok (.ifCond .eq 7, 3) := by decide +kernel
theorem dX10_canMove_21 : decode cX10_canMove 21 = .ok (.iconst 1, 1) := by decide +kernel
theorem dX10_canMove_22 : decode cX10_canMove 22 = .ok (.goto 4, 3) := by decide +kernel
theorem dX10_canMove_25 : decode cX10_canMove 25 = .ok (.iconst 0, 1) := by decide +kernel
theorem dX10_canMove_26 : decode cX10_canMove 26 = .ok (.invokevirtual 49, 3) := by decide +kernel
theorem dX10_canMove_29 : decode cX10_canMove 29 = .ok (.ifCond .eq 18, 3) := by decide +kernel
theorem dX10_canMove_32 : decode cX10_canMove 32 = .ok (.aload_n 0, 1) := by decide +kernel
theorem dX10_canMove_33 : decode cX10_canMove 33 = .ok (.iload 4, 2) := by decide +kernel
theorem dX10_canMove_35 : decode cX10_canMove 35 = .ok (.iload_n 2, 1) := by decide +kernel
theorem dX10_canMove_36 : decode cX10_canMove 36 = .ok (.iload_n 3, 1) := by decide +kernel
theorem dX10_canMove_37 : decode cX10_canMove 37 = .ok (.invokevirtual 187, 3) := by decide +kernel
theorem dX10_canMove_40 : decode cX10_canMove 40 = .ok (.ifCond .eq 7, 3) := by decide +kernel
theorem dX10_canMove_43 : decode cX10_canMove 43 = .ok (.iconst 1, 1) := by decide +kernel
theorem dX10_canMove_44 : decode cX10_canMove 44 = .ok (.goto 4, 3) := by decide +kernel
theorem dX10_canMove_47 : decode cX10_canMove 47 = .ok (.iconst 0, 1) := by decide +kernel
theorem dX10_canMove_48 : decode cX10_canMove 48 = .ok (.ireturn, 1) := by decide +kernel
set_option maxRecDepth 20000 in
theorem ggX10_suggestCell_X10_find : GoodIn wsX10_suggestCell wsX10_find := goodIn_ca (goodIn_r _ [5, 6, 7, 8, 9, 4, 10, 66, 67, 68, 69, 70, 71, 72, 73, 74, 75, 76, 77, 78, 79, 80, 81, 82, 83] (by decide +kernel) (by decide +kernel)) (goodIn_sub (fun _ h => List.mem_cons_of_mem _ (List.mem_append_right _ h)) (by decide +kernel))
set_option maxRecDepth 20000 in
theorem gX10_suggestCell_X10_find : GoodIn wsX10_suggestCell (wsV RX10 136 RX10 yX10_find wsX10_find) := goodIn_app (goodIn_of _ (by decide +kernel)) ggX10_suggestCell_X10_find
set_option maxRecDepth 20000 in
theorem ggX10_suggestCell_X10_isFine : GoodIn wsX10_suggestCell wsX10_isFine := goodIn_r _ [14, 15, 66, 67, 68, 69, 70, 71, 72, 73, 74, 75, 76, 77, 78, 79, 80, 81, 82, 83] (by decide +kernel) (by decide +kernel)
set_option maxRecDepth 20000 in
theorem gX10_suggestCell_X10_isFine : GoodIn wsX10_suggestCell (wsV RX10 49 RX10 yX10_isFine wsX10_isFine) := goodIn_app (goodIn_of _ (by decide +kernel)) ggX10_suggestCell_X10_isFine
set_option maxRecDepth 20000 in
theorem ggX10_suggestCell_X10_p : GoodIn wsX10_suggestCell wsX10_p := goodIn_ca (goodIn_r _ [10, 6, 66, 67, 68, 69, 70, 71, 72, 73, 74, 75, 76, 77, 78, 79, 80, 81, 82, 83] (by decide +kernel) (by decide +kernel)) (goodIn_sub (fun _ h => List.mem_cons_of_mem _ (List.mem_append_right _ h)) (by decide +kernel))
set_option maxRecDepth 20000 in
theorem gX10_suggestCell_X10_p : GoodIn wsX10_suggestCell (wsV RX10 56 RX10 yX10_p wsX10_p) := goodIn_app (goodIn_of _ (by decide +kernel)) ggX10_suggestCell_X10_p
set_option maxRecDepth 20000 in
theorem ggX10_suggestCell_X10_errorsOf : GoodIn wsX10_suggestCell wsX10_errorsOf := goodIn_ca (goodIn_r _ [19, 6, 7, 8, 9, 4, 10, 20, 21, 22, 23, 24, 25, 26, 27, 28, 29, 30, 31, 32, 33, 34, 35, 36, 37, 38, 39, 40, 41, 42, 43, 44, 45, 46, 66, 67, 68, 69, 70, 71, 72, 73, 74, 75, 76, 77, 78, 79, 80, 81, 82, 83] (by decide +kernel) (by decide +kernel)) (goodIn_sub (fun _ h => List.mem_cons_of_mem _ (List.mem_append_right _ h)) (by decide +kernel))
set_option maxRecDepth 20000 in
theorem gX10_suggestCell_X10_errorsOf : GoodIn wsX10_suggestCell (wsV RX10 178 RX10 yX10_errorsOf wsX10_errorsOf) := goodIn_app (goodIn_of _ (by decide +kernel)) ggX10_suggestCell_X10_errorsOf
set_option maxRecDepth 20000 in
theorem ggX10_suggestCell_X10_mayMove : GoodIn wsX10_suggestCell wsX10_mayMove := goodIn_ca (goodIn_r _ [50, 6, 36, 37, 38, 4, 39, 7, 8, 9, 10, 40, 41, 42, 51, 52, 53, 54, 55, 56, 57, 66, 67, 68, 69, 70, 71, 72, 73, 74, 75, 76, 77, 78, 79, 80, 81, 82, 83] (by decide +kernel) (by decide +kernel)) (goodIn_sub (fun _ h => List.mem_cons_of_mem _ (List.mem_append_right _ h)) (by decide +kernel))
set_option maxRecDepth 20000 in
theorem gX10_suggestCell_X10_mayMove : GoodIn wsX10_suggestCell (wsV RX10 187 RX10 yX10_mayMove wsX10_mayMove) := goodIn_app (goodIn_of _ (by decide +kernel)) ggX10_suggestCell_X10_mayMove
set_option maxRecDepth 20000 in
theorem ggX10_suggestCell_X10_errorsThere : GoodIn wsX10_suggestCell wsX10_errorsThere := goodIn_ca (goodIn_r _ [61, 7, 8, 9, 4, 10, 6, 62, 63, 64, 65, 16, 17, 18, 19, 20, 21, 22, 23, 24, 25, 26, 27, 28, 29, 30, 31, 32, 33, 34, 35, 36, 37, 38, 39, 40, 41, 42, 43, 44, 45, 46, 66, 67, 68, 69, 70, 71, 72, 73, 74, 75, 76, 77, 78, 79, 80, 81, 82, 83] (by decide +kernel) (by decide +kernel)) (goodIn_sub (fun _ h => List.mem_cons_of_mem _ (List.mem_append_right _ h)) (by decide +kernel))
set_option maxRecDepth 20000 in
theorem gX10_suggestCell_X10_errorsThere : GoodIn wsX10_suggestCell (wsV RX10 184 RX10 yX10_errorsThere wsX10_errorsThere) := goodIn_app (goodIn_of _ (by decide +kernel)) ggX10_suggestCell_X10_errorsThere
set_option maxRecDepth 20000 in
theorem ggX10_suggestCell_X10_distance : GoodIn wsX10_suggestCell wsX10_distance := goodIn_ca (goodIn_r _ [39, 7, 8, 9, 4, 10, 6, 40, 41, 42, 66, 67, 68, 69, 70, 71, 72, 73, 74, 75, 76, 77, 78, 79, 80, 81, 82, 83] (by decide +kernel) (by decide +kernel)) (goodIn_sub (fun _ h => List.mem_cons_of_mem _ (List.mem_append_right _ h)) (by decide +kernel))
set_option maxRecDepth 20000 in
theorem gX10_suggestCell_X10_distance : GoodIn wsX10_suggestCell (wsV RX10 72 RX10 yX10_distance wsX10_distance) := goodIn_app (goodIn_of _ (by decide +kernel)) ggX10_suggestCell_X10_distance
theorem dX10_suggestCell_0 : decode cX10_suggestCell 0 = .ok (.aload_n 0, 1) := by decide +kernel
theorem dX10_suggestCell_1 : decode cX10_suggestCell 1 = .ok (.iload_n 1, 1) := by decide +kernel
theorem dX10_suggestCell_2 : decode cX10_suggestCell 2 = .ok (.invokevirtual 136, 3) := by decide +kernel
theorem dX10_suggestCell_5 : decode cX10_suggestCell 5 = .ok (.istore_n 2, 1) := by decide +kernel
theorem dX10_suggestCell_6 : decode cX10_suggestCell 6 = .ok (.aload_n 0, 1) := by decide +kernel
theorem dX10_suggestCell_7 : decode cX10_suggestCell 7 = .ok (.iload_n 2, 1) := by decide +kernel
theorem dX10_suggestCell_8 : decode cX10_suggestCell 8 = .ok (.ifCond .lt 7, 3) := by decide +kernel
theorem dX10_suggestCell_11 : decode cX10_suggestCell 11 = .ok (.iconst 1, 1) := by decide +kernel
theorem dX10_suggestCell_12 : decode cX10_suggestCell 12 = .ok (.goto 4, 3) := by decide +kernel
theorem dX10_suggestCell_15 : decode cX10_suggestCell 15 = .ok (.iconst 0, 1) := by decide +kernel
theorem dX10_suggestCell_16 : decode cX10_suggestCell 16 = .ok (.invokevirtual 49, 3) := by decide +kernel
theorem dX10_suggestCell_19 : decode cX10_suggestCell 19 = .ok (.ifCond .ne 5, 3) := by decide +kernel
theorem dX10_suggestCell_22 : decode cX10_suggestCell 22 = .ok (.iconst 0, 1) := by decide +kernel
theorem dX10_suggestCell_23 : decode cX10_suggestCell 23 = .ok (.ireturn, 1) := by decide +kernel
theorem dX10_suggestCell_24 : decode cX10_suggestCell 24 = .ok (.bipush 20, 2) := by decide +kernel
theorem dX10_suggestCell_26 : decode cX10_suggestCell 26 = .ok (.aload_n 0, 1) := by decide +kernel
theorem dX10_suggestCell_27 : decode cX10_suggestCell 27 = .ok (.iload_n 2, 1) := by decide +kernel
theorem dX10_suggestCell_28 : decode cX10_suggestCell 28 = .ok (.iconst 3, 1) := by decide +kernel
theorem dX10_suggestCell_29 : decode cX10_suggestCell 29 = .ok (.invokevirtual 56, 3) := by decide +kernel
theorem dX10_suggestCell_32 : decode cX10_suggestCell 32 = .ok (.imul, 1) := by decide +kernel
theorem dX10_suggestCell_33 : decode cX10_suggestCell 33 = .ok (.aload_n 0, 1) := by decide +kernel
theorem dX10_suggestCell_34 : decode cX10_suggestCell 34 = .ok (.iload_n 2, 1) := by decide +kernel
theorem dX10_suggestCell_35 : decode cX10_suggestCell 35 = .ok (.iconst 4, 1) := by decide +kernel
theorem dX10_suggestCell_36 : decode cX10_suggestCell 36 = .ok (.invokevirtual 56, 3) := by decide +kernel
theorem dX10_suggestCell_39 : decode cX10_suggestCell 39 = .ok (.iadd, 1) := by decide +kernel
theorem dX10_suggestCell_40 : decode cX10_suggestCell 40 = .ok (.istore_n 3, 1) := by decide +kernel
theorem dX10_suggestCell_41 : decode cX10_suggestCell 41 = .ok (.sipush 1000, 3) := by decide +kernel
theorem dX10_suggestCell_44 : decode cX10_suggestCell 44 = .ok (.aload_n 0, 1) := by decide +kernel
theorem dX10_suggestCell_45 : decode cX10_suggestCell 45 = .ok (.aload_n 0, 1) := by decide +kernel
theorem dX10_suggestCell_46 : decode cX10_suggestCell 46 = .ok (.iload_n 2, 1) := by decide +kernel
theorem dX10_suggestCell_47 : decode cX10_suggestCell 47 = .ok (.iconst 1, 1) := by decide +kernel
theorem dX10_suggestCell_48 : decode cX10_suggestCell 48 = .ok (.invokevirtual 56, 3) := by decide +kernel
theorem dX10_suggestCell_51 : decode cX10_suggestCell 51 = .ok (.invokevirtual 178, 3) := by decide +kernel
theorem dX10_suggestCell_54 : decode cX10_suggestCell 54 = .ok (.imul, 1) := by decide +kernel
theorem dX10_suggestCell_55 : decode cX10_suggestCell 55 = .ok (.istore 4, 2) := by decide +kernel
theorem dX10_suggestCell_57 : decode cX10_suggestCell 57 = .ok (.iconst 0, 1) := by decide +kernel
theorem dX10_suggestCell_58 : decode cX10_suggestCell 58 = .ok (.istore 5, 2) := by decide +kernel
theorem dX10_suggestCell_60 : decode cX10_suggestCell 60 = .ok (.iload 5, 2) := by decide +kernel
theorem dX10_suggestCell_62 : decode cX10_suggestCell 62 = .ok (.sipush 200, 3) := by decide +kernel
theorem dX10_suggestCell_65 : decode cX10_suggestCell 65 = .ok (.if_icmp .ge 93, 3) := by decide +kernel
theorem dX10_suggestCell_68 : decode cX10_suggestCell 68 = .ok (.iload 5, 2) := by decide +kernel
theorem dX10_suggestCell_70 : decode cX10_suggestCell 70 = .ok (.bipush 20, 2) := by decide +kernel
theorem dX10_suggestCell_72 : decode cX10_suggestCell 72 = .ok (.idiv, 1) := by decide +kernel
theorem dX10_suggestCell_73 : decode cX10_suggestCell 73 = .ok (.istore 6, 2) := by decide +kernel
theorem dX10_suggestCell_75 : decode cX10_suggestCell 75 = .ok (.iload 5, 2) := by decide +kernel
theorem dX10_suggestCell_77 : decode cX10_suggestCell 77 = .ok (.bipush 20, 2) := by decide +kernel
theorem dX10_suggestCell_79 : decode cX10_suggestCell 79 = .ok (.irem, 1) := by decide +kernel
theorem dX10_suggestCell_80 : decode cX10_suggestCell 80 = .ok (.istore 7, 2) := by decide +kernel
theorem dX10_suggestCell_82 : decode cX10_suggestCell 82 = .ok (.aload_n 0, 1) := by decide +kernel
theorem dX10_suggestCell_83 : decode cX10_suggestCell 83 = .ok (.iload_n 2, 1) := by decide +kernel
theorem dX10_suggestCell_84 : decode cX10_suggestCell 84 = .ok (.iload 6, 2) := by decide +kernel
theorem dX10_suggestCell_86 : decode cX10_suggestCell 86 = .ok (.iload 7, 2) := by decide +kernel
theorem dX10_suggestCell_88 : decode cX10_suggestCell 88 = .ok (.invokevirtual 187, 3) := by decide +kernel
theorem dX10_suggestCell_91 : decode cX10_suggestCell 91 = .ok (.ifCond .ne 6, 3) := by decide +kernel
theorem dX10_suggestCell_94 : decode cX10_suggestCell 94 = .ok (.goto 58, 3) := by decide +kernel
theorem dX10_suggestCell_97 : decode cX10_suggestCell 97 = .ok (.sipush 1000, 3) := by decide +kernel
theorem dX10_suggestCell_100 : decode cX10_suggestCell 100 = .ok (.aload_n 0, 1) := by decide +kernel
theorem dX10_suggestCell_101 : decode cX10_suggestCell 101 = .ok (.iload_n 2, 1) := by decide +kernel
theorem dX10_suggestCell_102 : decode cX10_suggestCell 102 = .ok (.iload 6, 2) := by decide +kernel
theorem dX10_suggestCell_104 : decode cX10_suggestCell 104 = .ok (.iload 7, 2) := by decide +kernel
theorem dX10_suggestCell_106 : decode cX10_suggestCell 106 = .ok (.invokevirtual 184, 3) := by decide +kernel
theorem dX10_suggestCell_109 : decode cX10_suggestCell 109 = .ok (.imul, 1) := by decide +kernel
theorem dX10_suggestCell_110 : decode cX10_suggestCell 110 = .ok (.aload_n 0, 1) := by decide +kernel
theorem dX10_suggestCell_111 : decode cX10_suggestCell 111 = .ok (.iload_n 2, 1) := by decide +kernel
theorem dX10_suggestCell_112 : decode cX10_suggestCell 112 = .ok (.iload 6, 2) := by decide +kernel
theorem dX10_suggestCell_114 : decode cX10_suggestCell 114 = .ok (.iload 7, 2) := by decide +kernel
theorem dX10_suggestCell_116 : decode cX10_suggestCell 116 = .ok (.invokevirtual 72, 3) := by decide +kernel
theorem dX10_suggestCell_119 : decode cX10_suggestCell 119 = .ok (.iadd, 1) := by decide +kernel
theorem dX10_suggestCell_120 : decode cX10_suggestCell 120 = .ok (.istore 8, 2) := by decide +kernel
theorem dX10_suggestCell_122 : decode cX10_suggestCell 122 = .ok (.iload 8, 2) := by decide +kernel
theorem dX10_suggestCell_124 : decode cX10_suggestCell 124 = .ok (.iload 4, 2) := by decide +kernel
theorem dX10_suggestCell_126 : decode cX10_suggestCell 126 = .ok (.if_icmp .ge 8, 3) := by decide +kernel
theorem dX10_suggestCell_129 : decode cX10_suggestCell 129 = .ok (.iload 5, 2) := by decide +kernel
theorem dX10_suggestCell_131 : decode cX10_suggestCell 131 = .ok (.goto 4, 3) := by decide +kernel
theorem dX10_suggestCell_134 : decode cX10_suggestCell 134 = .ok (.iload_n 3, 1) := by decide +kernel
theorem dX10_suggestCell_135 : decode cX10_suggestCell 135 = .ok (.istore_n 3, 1) := by decide +kernel
theorem dX10_suggestCell_136 : decode cX10_suggestCell 136 = .ok (.iload 8, 2) := by decide +kernel
theorem dX10_suggestCell_138 : decode cX10_suggestCell 138 = .ok (.iload 4, 2) := by decide +kernel
theorem dX10_suggestCell_140 : decode cX10_suggestCell 140 = .ok (.if_icmp .ge 8, 3) := by decide +kernel
theorem dX10_suggestCell_143 : decode cX10_suggestCell 143 = .ok (.iload 8, 2) := by decide +kernel
theorem dX10_suggestCell_145 : decode cX10_suggestCell 145 = .ok (.goto 5, 3) := by decide +kernel
theorem dX10_suggestCell_148 : decode cX10_suggestCell 148 = .ok (.iload 4, 2) := by decide +kernel
theorem dX10_suggestCell_150 : decode cX10_suggestCell 150 = .ok (.istore 4, 2) := by decide +kernel
theorem dX10_suggestCell_152 : decode cX10_suggestCell 152 = .ok (.iinc 5 1, 3) := by decide +kernel
theorem dX10_suggestCell_155 : decode cX10_suggestCell 155 = .ok (.goto (-95), 3) := by decide +kernel
theorem dX10_suggestCell_158 : decode cX10_suggestCell 158 = .ok (.iload_n 3, 1) := by decide +kernel
theorem dX10_suggestCell_159 : decode cX10_suggestCell 159 = .ok (.ireturn, 1) := by decide +kernel
set_option maxRecDepth 20000 in
theorem ggX10_trackByErrors_X10_errorsOf : GoodIn wsX10_trackByErrors wsX10_errorsOf := goodIn_ca (goodIn_r _ [7, 1, 8, 9, 10, 6, 11, 12, 13, 14, 15, 16, 17, 18, 19, 20, 21, 22, 23, 24, 25, 26, 27, 28, 29, 30, 31, 32, 33, 34, 35, 36, 37, 38, 47, 48, 49, 50, 51, 52, 53, 54, 55, 56, 57, 58, 59, 60, 61, 62, 63, 64] (by decide +kernel) (by decide +kernel)) (goodIn_sub (fun _ h => List.mem_cons_of_mem _ (List.mem_append_right _ h)) (by decide +kernel))
set_option maxRecDepth 20000 in
theorem gX10_trackByErrors_X10_errorsOf : GoodIn wsX10_trackByErrors (wsV RX10 178 RX10 yX10_errorsOf wsX10_errorsOf) := goodIn_app (goodIn_of _ (by decide +kernel)) ggX10_trackByErrors_X10_errorsOf
set_option maxRecDepth 20000 in
theorem ggX10_trackByErrors_X10_countOf : GoodIn wsX10_trackByErrors wsX10_countOf := goodIn_ca (goodIn_r _ [42, 1, 8, 9, 10, 6, 11, 47, 48, 49, 50, 51, 52, 53, 54, 55, 56, 57, 58, 59, 60, 61, 62, 63, 64] (by decide +kernel) (by decide +kernel)) (goodIn_sub (fun _ h => List.mem_cons_of_mem _ (List.mem_append_right _ h)) (by decide +kernel))
set_option maxRecDepth 20000 in
theorem gX10_trackByErrors_X10_countOf : GoodIn wsX10_trackByErrors (wsV RX10 107 RX10 yX10_countOf wsX10_countOf) := goodIn_app (goodIn_of _ (by decide +kernel)) ggX10_trackByErrors_X10_countOf
set_option maxRecDepth 20000 in
theorem ggX10_trackByErrors_X10_isFine : GoodIn wsX10_trackByErrors wsX10_isFine := goodIn_r _ [46, 2, 47, 48, 49, 50, 51, 52, 53, 54, 55, 56, 57, 58, 59, 60, 61, 62, 63, 64] (by decide +kernel) (by decide +kernel)
set_option maxRecDepth 20000 in
theorem gX10_trackByErrors_X10_isFine : GoodIn wsX10_trackByErrors (wsV RX10 49 RX10 yX10_isFine wsX10_isFine) := goodIn_app (goodIn_of _ (by decide +kernel)) ggX10_trackByErrors_X10_isFine
theorem dX10_trackByErrors_0 : decode cX10_trackByErrors 0 = .ok (.iconst 0, 1) := by decide +kernel
theorem dX10_trackByErrors_1 : decode cX10_trackByErrors 1 = .ok (.istore_n 2, 1) := by decide +kernel
theorem dX10_trackByErrors_2 : decode cX10_trackByErrors 2 = .ok (.iload_n 2, 1) := by decide +kernel
theorem dX10_trackByErrors_3 : decode cX10_trackByErrors 3 = .ok (.aload_n 0, 1) := by decide +kernel
theorem dX10_trackByErrors_4 : decode cX10_trackByErrors 4 = .ok (.getfield 9, 3) := by decide +kernel
theorem dX10_trackByErrors_7 : decode cX10_trackByErrors 7 = .ok (.iconst 0, 1) := by decide +kernel
theorem dX10_trackByErrors_8 : decode cX10_trackByErrors 8 = .ok (.iaload, 1) := by decide +kernel
theorem dX10_trackByErrors_9 : decode cX10_trackByErrors 9 = .ok (.if_icmp .ge 142, 3) := by decide +kernel
theorem dX10_trackByErrors_12 : decode cX10_trackByErrors 12 = .ok (.iconst 0, 1) := by decide +kernel
theorem dX10_trackByErrors_13 : decode cX10_trackByErrors 13 = .ok (.istore_n 3, 1) := by decide +kernel
theorem dX10_trackByErrors_14 : decode cX10_trackByErrors 14 = .ok (.aload_n 0, 1) := by decide +kernel
theorem dX10_trackByErrors_15 : decode cX10_trackByErrors 15 = .ok (.getfield 9, 3) := by decide +kernel
theorem dX10_trackByErrors_18 : decode cX10_trackByErrors 18 = .ok (.bipush 7, 2) := by decide +kernel
theorem dX10_trackByErrors_20 : decode cX10_trackByErrors 20 = .ok (.iconst 2, 1) := by decide +kernel
theorem dX10_trackByErrors_21 : decode cX10_trackByErrors 21 = .ok (.iload_n 2, 1) := by decide +kernel
theorem dX10_trackByErrors_22 : decode cX10_trackByErrors 22 = .ok (.imul, 1) := by decide +kernel
theorem dX10_trackByErrors_23 : decode cX10_trackByErrors 23 = .ok (.iadd, 1) := by decide +kernel
theorem dX10_trackByErrors_24 : decode cX10_trackByErrors 24 = .ok (.iaload, 1) := by decide +kernel
theorem dX10_trackByErrors_25 : decode cX10_trackByErrors 25 = .ok (.istore 4, 2) := by decide +kernel
theorem dX10_trackByErrors_27 : decode cX10_trackByErrors 27 = .ok (.iconst 0, 1) := by decide +kernel
theorem dX10_trackByErrors_28 : decode cX10_trackByErrors 28 = .ok (.istore 5, 2) := by decide +kernel
theorem dX10_trackByErrors_30 : decode cX10_trackByErrors 30 = .ok (.iload 5, 2) := by decide +kernel
theorem dX10_trackByErrors_32 : decode cX10_trackByErrors 32 = .ok (.aload_n 0, 1) := by decide +kernel
theorem dX10_trackByErrors_33 : decode cX10_trackByErrors 33 = .ok (.getfield 9, 3) := by decide +kernel
theorem dX10_trackByErrors_36 : decode cX10_trackByErrors 36 = .ok (.iconst 0, 1) := by decide +kernel
theorem dX10_trackByErrors_37 : decode cX10_trackByErrors 37 = .ok (.iaload, 1) := by decide +kernel
theorem dX10_trackByErrors_38 : decode cX10_trackByErrors 38 = .ok (.if_icmp .ge 87, 3) := by decide +kernel
theorem dX10_trackByErrors_41 : decode cX10_trackByErrors 41 = .ok (.aload_n 0, 1) := by decide +kernel
theorem dX10_trackByErrors_42 : decode cX10_trackByErrors 42 = .ok (.getfield 9, 3) := by decide +kernel
theorem dX10_trackByErrors_45 : decode cX10_trackByErrors 45 = .ok (.bipush 7, 2) := by decide +kernel
theorem dX10_trackByErrors_47 : decode cX10_trackByErrors 47 = .ok (.iconst 2, 1) := by decide +kernel
theorem dX10_trackByErrors_48 : decode cX10_trackByErrors 48 = .ok (.iload 5, 2) := by decide +kernel
theorem dX10_trackByErrors_50 : decode cX10_trackByErrors 50 = .ok (.imul, 1) := by decide +kernel
theorem dX10_trackByErrors_51 : decode cX10_trackByErrors 51 = .ok (.iadd, 1) := by decide +kernel
theorem dX10_trackByErrors_52 : decode cX10_trackByErrors 52 = .ok (.iaload, 1) := by decide +kernel
theorem dX10_trackByErrors_53 : decode cX10_trackByErrors 53 = .ok (.istore 6, 2) := by decide +kernel
theorem dX10_trackByErrors_55 : decode cX10_trackByErrors 55 = .ok (.aload_n 0, 1) := by decide +kernel
theorem dX10_trackByErrors_56 : decode cX10_trackByErrors 56 = .ok (.iload 6, 2) := by decide +kernel
theorem dX10_trackByErrors_58 : decode cX10_trackByErrors 58 = .ok (.invokevirtual 178, 3) := by decide +kernel
theorem dX10_trackByErrors_61 : decode cX10_trackByErrors 61 = .ok (.aload_n 0, 1) := by decide +kernel
theorem dX10_trackByErrors_62 : decode cX10_trackByErrors 62 = .ok (.iload 4, 2) := by decide +kernel
theorem dX10_trackByErrors_64 : decode cX10_trackByErrors 64 = .ok (.invokevirtual 178, 3) := by decide +kernel
theorem dX10_trackByErrors_67 : decode cX10_trackByErrors 67 = .ok (.isub, 1) := by decide +kernel
theorem dX10_trackByErrors_68 : decode cX10_trackByErrors 68 = .ok (.istore 7, 2) := by decide +kernel
theorem dX10_trackByErrors_70 : decode cX10_trackByErrors 70 = .ok (.aload_n 0, 1) := by decide +kernel
theorem dX10_trackByErrors_71 : decode cX10_trackByErrors 71 = .ok (.iload 6, 2) := by decide +kernel
theorem dX10_trackByErrors_73 : decode cX10_trackByErrors 73 = .ok (.invokevirtual 107, 3) := by decide +kernel
theorem dX10_trackByErrors_76 : decode cX10_trackByErrors 76 = .ok (.aload_n 0, 1) := by decide +kernel
theorem dX10_trackByErrors_77 : decode cX10_trackByErrors 77 = .ok (.iload 4, 2) := by decide +kernel
theorem dX10_trackByErrors_79 : decode cX10_trackByErrors 79 = .ok (.invokevirtual 107, 3) := by decide +kernel
theorem dX10_trackByErrors_82 : decode cX10_trackByErrors 82 = .ok (.isub, 1) := by decide +kernel
theorem dX10_trackByErrors_83 : decode cX10_trackByErrors 83 = .ok (.istore 8, 2) := by decide +kernel
theorem dX10_trackByErrors_85 : decode cX10_trackByErrors 85 = .ok (.iload_n 3, 1) := by decide +kernel
theorem dX10_trackByErrors_86 : decode cX10_trackByErrors 86 = .ok (.iload 7, 2) := by decide +kernel
theorem dX10_trackByErrors_88 : decode cX10_trackByErrors 88 = .ok (.ifCond .gt 24, 3) := by decide +kernel
theorem dX10_trackByErrors_91 : decode cX10_trackByErrors 91 = .ok (.iload 7, 2) := by decide +kernel
theorem dX10_trackByErrors_93 : decode cX10_trackByErrors 93 = .ok (.ifCond .ne 23, 3) := by decide +kernel
theorem dX10_trackByErrors_96 : decode cX10_trackByErrors 96 = .ok (.iload 8, 2) := by decide +kernel
theorem dX10_trackByErrors_98 : decode cX10_trackByErrors 98 = .ok (.ifCond .gt 14, 3) := by decide +kernel
theorem dX10_trackByErrors_101 : decode cX10_trackByErrors 101 = .ok (.iload 8, 2) := by decide +kernel
theorem dX10_trackByErrors_103 : decode cX10_trackByErrors 103 = .ok (.ifCond .ne 13, 3) := by decide +kernel
theorem dX10_trackByErrors_106 : decode cX10_trackByErrors 106 = .ok (.iload 5, 2) := by decide +kernel
theorem dX10_trackByErrors_108 : decode cX10_trackByErrors 108 = .ok (.iload_n 2, 1) := by decide +kernel
theorem dX10_trackByErrors_109 : decode cX10_trackByErrors 109 = .ok (.if_icmp .ge 7, 3) := by decide +kernel
theorem dX10_trackByErrors_112 : decode cX10_trackByErrors 112 = .ok (.iconst 1, 1) := by decide +kernel
theorem dX10_trackByErrors_113 : decode cX10_trackByErrors 113 = .ok (.goto 4, 3) := by decide +kernel
theorem dX10_trackByErrors_116 : decode cX10_trackByErrors 116 = .ok (.iconst 0, 1) := by decide +kernel
theorem dX10_trackByErrors_117 : decode cX10_trackByErrors 117 = .ok (.iadd, 1) := by decide +kernel
theorem dX10_trackByErrors_118 : decode cX10_trackByErrors 118 = .ok (.istore_n 3, 1) := by decide +kernel
theorem dX10_trackByErrors_119 : decode cX10_trackByErrors 119 = .ok (.iinc 5 1, 3) := by decide +kernel
theorem dX10_trackByErrors_122 : decode cX10_trackByErrors 122 = .ok (.goto (-92), 3) := by decide +kernel
theorem dX10_trackByErrors_125 : decode cX10_trackByErrors 125 = .ok (.aload_n 0, 1) := by decide +kernel
theorem dX10_trackByErrors_126 : decode cX10_trackByErrors 126 = .ok (.iload_n 3, 1) := by decide +kernel
theorem dX10_trackByErrors_127 : decode cX10_trackByErrors 127 = .ok (.iload_n 1, 1) := by decide +kernel
theorem dX10_trackByErrors_128 : decode cX10_trackByErrors 128 = .ok (.if_icmp .ne 7, 3) := by decide +kernel
theorem dX10_trackByErrors_131 : decode cX10_trackByErrors 131 = .ok (.iconst 1, 1) := by decide +kernel
theorem dX10_trackByErrors_132 : decode cX10_trackByErrors 132 = .ok (.goto 4, 3) := by decide +kernel
theorem dX10_trackByErrors_135 : decode cX10_trackByErrors 135 = .ok (.iconst 0, 1) := by decide +kernel
theorem dX10_trackByErrors_136 : decode cX10_trackByErrors 136 = .ok (.invokevirtual 49, 3) := by decide +kernel
theorem dX10_trackByErrors_139 : decode cX10_trackByErrors 139 = .ok (.ifCond .eq 6, 3) := by decide +kernel
theorem dX10_trackByErrors_142 : decode cX10_trackByErrors 142 = .ok (.iload 4, 2) := by decide +kernel
theorem dX10_trackByErrors_144 : decode cX10_trackByErrors 144 = .ok (.ireturn, 1) := by decide +kernel
theorem dX10_trackByErrors_145 : decode cX10_trackByErrors 145 = .ok (.iinc 2 1, 3) := by decide +kernel
theorem dX10_trackByErrors_148 : decode cX10_trackByErrors 148 = .ok (.goto (-146), 3) := by decide +kernel
theorem dX10_trackByErrors_151 : decode cX10_trackByErrors 151 = .ok (.aload_n 0, 1) := by decide +kernel
theorem dX10_trackByErrors_152 : decode cX10_trackByErrors 152 = .ok (.iconst 1, 1) := by decide +kernel
theorem dX10_trackByErrors_153 : decode cX10_trackByErrors 153 = .ok (.putfield 27, 3) := by decide +kernel
theorem dX10_trackByErrors_156 : decode cX10_trackByErrors 156 = .ok (.iconst 0, 1) := by decide +kernel
theorem dX10_trackByErrors_157 : decode cX10_trackByErrors 157 = .ok (.ireturn, 1) := by decide +kernel
set_option maxRecDepth 20000 in
theorem ggX10_printByDoubts_X10_p : GoodIn wsX10_printByDoubts wsX10_p := goodIn_ca (goodIn_r _ [7, 1, 12, 13, 14, 15, 16, 17, 18, 19, 20, 21, 22, 23, 24, 25, 26, 27, 28, 29] (by decide +kernel) (by decide +kernel)) (goodIn_sub (fun _ h => List.mem_cons_of_mem _ (List.mem_append_right _ h)) (by decide +kernel))
set_option maxRecDepth 20000 in
theorem gX10_printByDoubts_X10_p : GoodIn wsX10_printByDoubts (wsV RX10 56 RX10 yX10_p wsX10_p) := goodIn_app (goodIn_of _ (by decide +kernel)) ggX10_printByDoubts_X10_p
set_option maxRecDepth 20000 in
theorem ggX10_printByDoubts_X10_isFine : GoodIn wsX10_printByDoubts wsX10_isFine := goodIn_r _ [11, 2, 12, 13, 14, 15, 16, 17, 18, 19, 20, 21, 22, 23, 24, 25, 26, 27, 28, 29] (by decide +kernel) (by decide +kernel)
set_option maxRecDepth 20000 in
theorem gX10_printByDoubts_X10_isFine : GoodIn wsX10_printByDoubts (wsV RX10 49 RX10 yX10_isFine wsX10_isFine) := goodIn_app (goodIn_of _ (by decide +kernel)) ggX10_printByDoubts_X10_isFine
theorem dX10_printByDoubts_0 : decode cX10_printByDoubts 0 = .ok (.iconst 0, 1) := by decide +kernel
theorem dX10_printByDoubts_1 : decode cX10_printByDoubts 1 = .ok (.istore_n 2, 1) := by decide +kernel
theorem dX10_printByDoubts_2 : decode cX10_printByDoubts 2 = .ok (.iload_n 2, 1) := by decide +kernel
theorem dX10_printByDoubts_3 : decode cX10_printByDoubts 3 = .ok (.aload_n 0, 1) := by decide +kernel
theorem dX10_printByDoubts_4 : decode cX10_printByDoubts 4 = .ok (.getfield 9, 3) := by decide +kernel
theorem dX10_printByDoubts_7 : decode cX10_printByDoubts 7 = .ok (.iconst 1, 1) := by decide +kernel
theorem dX10_printByDoubts_8 : decode cX10_printByDoubts 8 = .ok (.iaload, 1) := by decide +kernel
theorem dX10_printByDoubts_9 : decode cX10_printByDoubts 9 = .ok (.if_icmp .ge 123, 3) := by decide +kernel
theorem dX10_printByDoubts_12 : decode cX10_printByDoubts 12 = .ok (.iconst 0, 1) := by decide +kernel
theorem dX10_printByDoubts_13 : decode cX10_printByDoubts 13 = .ok (.istore_n 3, 1) := by decide +kernel
theorem dX10_printByDoubts_14 : decode cX10_printByDoubts 14 = .ok (.iconst 0, 1) := by decide +kernel
theorem dX10_printByDoubts_15 : decode cX10_printByDoubts 15 = .ok (.istore 4, 2) := by decide +kernel
theorem dX10_printByDoubts_17 : decode cX10_printByDoubts 17 = .ok (.iload 4, 2) := by decide +kernel
theorem dX10_printByDoubts_19 : decode cX10_printByDoubts 19 = .ok (.aload_n 0, 1) := by decide +kernel
theorem dX10_printByDoubts_20 : decode cX10_printByDoubts 20 = .ok (.getfield 9, 3) := by decide +kernel
theorem dX10_printByDoubts_23 : decode cX10_printByDoubts 23 = .ok (.iconst 1, 1) := by decide +kernel
theorem dX10_printByDoubts_24 : decode cX10_printByDoubts 24 = .ok (.iaload, 1) := by decide +kernel
theorem dX10_printByDoubts_25 : decode cX10_printByDoubts 25 = .ok (.if_icmp .ge 77, 3) := by decide +kernel
theorem dX10_printByDoubts_28 : decode cX10_printByDoubts 28 = .ok (.aload_n 0, 1) := by decide +kernel
theorem dX10_printByDoubts_29 : decode cX10_printByDoubts 29 = .ok (.iload 4, 2) := by decide +kernel
theorem dX10_printByDoubts_31 : decode cX10_printByDoubts 31 = .ok (.bipush 7, 2) := by decide +kernel
theorem dX10_printByDoubts_33 : decode cX10_printByDoubts 33 = .ok (.invokevirtual 56, 3) := by decide +kernel
theorem dX10_printByDoubts_36 : decode cX10_printByDoubts 36 = .ok (.aload_n 0, 1) := by decide +kernel
theorem dX10_printByDoubts_37 : decode cX10_printByDoubts 37 = .ok (.iload_n 2, 1) := by decide +kernel
theorem dX10_printByDoubts_38 : decode cX10_printByDoubts 38 = .ok (.bipush 7, 2) := by decide +kernel
theorem dX10_printByDoubts_40 : decode cX10_printByDoubts 40 = .ok (.invokevirtual 56, 3) := by decide +kernel
theorem dX10_printByDoubts_43 : decode cX10_printByDoubts 43 = .ok (.isub, 1) := by decide +kernel
theorem dX10_printByDoubts_44 : decode cX10_printByDoubts 44 = .ok (.istore 5, 2) := by decide +kernel
theorem dX10_printByDoubts_46 : decode cX10_printByDoubts 46 = .ok (.aload_n 0, 1) := by decide +kernel
theorem dX10_printByDoubts_47 : decode cX10_printByDoubts 47 = .ok (.iload_n 2, 1) := by decide +kernel
theorem dX10_printByDoubts_48 : decode cX10_printByDoubts 48 = .ok (.iconst 2, 1) := by decide +kernel
theorem dX10_printByDoubts_49 : decode cX10_printByDoubts 49 = .ok (.invokevirtual 56, 3) := by decide +kernel
theorem dX10_printByDoubts_52 : decode cX10_printByDoubts 52 = .ok (.aload_n 0, 1) := by decide +kernel
theorem dX10_printByDoubts_53 : decode cX10_printByDoubts 53 = .ok (.iload 4, 2) := by decide +kernel
theorem dX10_printByDoubts_55 : decode cX10_printByDoubts 55 = .ok (.iconst 2, 1) := by decide +kernel
theorem dX10_printByDoubts_56 : decode cX10_printByDoubts 56 = .ok (.invokevirtual 56, 3) := by decide +kernel
theorem dX10_printByDoubts_59 : decode cX10_printByDoubts 59 = .ok (.isub, 1) := by decide +kernel
theorem dX10_printByDoubts_60 : decode cX10_printByDoubts 60 = .ok (.istore 6, 2) := by decide +kernel
theorem dX10_printByDoubts_62 : decode cX10_printByDoubts 62 = .ok (.iload_n 3, 1) := by decide +kernel
theorem dX10_printByDoubts_63 : decode cX10_printByDoubts 63 = .ok (.iload 5, 2) := by decide +kernel
theorem dX10_printByDoubts_65 : decode cX10_printByDoubts 65 = .ok (.ifCond .gt 24, 3) := by decide +kernel
theorem dX10_printByDoubts_68 : decode cX10_printByDoubts 68 = .ok (.iload 5, 2) := by decide +kernel
theorem dX10_printByDoubts_70 : decode cX10_printByDoubts 70 = .ok (.ifCond .ne 23, 3) := by decide +kernel
theorem dX10_printByDoubts_73 : decode cX10_printByDoubts 73 = .ok (.iload 6, 2) := by decide +kernel
theorem dX10_printByDoubts_75 : decode cX10_printByDoubts 75 = .ok (.ifCond .gt 14, 3) := by decide +kernel
theorem dX10_printByDoubts_78 : decode cX10_printByDoubts 78 = .ok (.iload 6, 2) := by decide +kernel
theorem dX10_printByDoubts_80 : decode cX10_printByDoubts 80 = .ok (.ifCond .ne 13, 3) := by decide +kernel
theorem dX10_printByDoubts_83 : decode cX10_printByDoubts 83 = .ok (.iload 4, 2) := by decide +kernel
theorem dX10_printByDoubts_85 : decode cX10_printByDoubts 85 = .ok (.iload_n 2, 1) := by decide +kernel
theorem dX10_printByDoubts_86 : decode cX10_printByDoubts 86 = .ok (.if_icmp .ge 7, 3) := by decide +kernel
theorem dX10_printByDoubts_89 : decode cX10_printByDoubts 89 = .ok (.iconst 1, 1) := by decide +kernel
theorem dX10_printByDoubts_90 : decode cX10_printByDoubts 90 = .ok (.goto 4, 3) := by decide +kernel
theorem dX10_printByDoubts_93 : decode cX10_printByDoubts 93 = .ok (.iconst 0, 1) := by decide +kernel
theorem dX10_printByDoubts_94 : decode cX10_printByDoubts 94 = .ok (.iadd, 1) := by decide +kernel
theorem dX10_printByDoubts_95 : decode cX10_printByDoubts 95 = .ok (.istore_n 3, 1) := by decide +kernel
theorem dX10_printByDoubts_96 : decode cX10_printByDoubts 96 = .ok (.iinc 4 1, 3) := by decide +kernel
theorem dX10_printByDoubts_99 : decode cX10_printByDoubts 99 = .ok (.goto (-82), 3) := by decide +kernel
theorem dX10_printByDoubts_102 : decode cX10_printByDoubts 102 = .ok (.aload_n 0, 1) := by decide +kernel
theorem dX10_printByDoubts_103 : decode cX10_printByDoubts 103 = .ok (.iload_n 3, 1) := by decide +kernel
theorem dX10_printByDoubts_104 : decode cX10_printByDoubts 104 = .ok (.iload_n 1, 1) := by decide +kernel
theorem dX10_printByDoubts_105 : decode cX10_printByDoubts 105 = .ok (.if_icmp .ne 7, 3) := by decide +kernel
theorem dX10_printByDoubts_108 : decode cX10_printByDoubts 108 = .ok (.iconst 1, 1) := by decide +kernel
theorem dX10_printByDoubts_109 : decode cX10_printByDoubts 109 = .ok (.goto 4, 3) := by decide +kernel
theorem dX10_printByDoubts_112 : decode cX10_printByDoubts 112 = .ok (.iconst 0, 1) := by decide +kernel
theorem dX10_printByDoubts_113 : decode cX10_printByDoubts 113 = .ok (.invokevirtual 49, 3) := by decide +kernel
theorem dX10_printByDoubts_116 : decode cX10_printByDoubts 116 = .ok (.ifCond .eq 10, 3) := by decide +kernel
theorem dX10_printByDoubts_119 : decode cX10_printByDoubts 119 = .ok (.aload_n 0, 1) := by decide +kernel
theorem dX10_printByDoubts_120 : decode cX10_printByDoubts 120 = .ok (.iload_n 2, 1) := by decide +kernel
theorem dX10_printByDoubts_121 : decode cX10_printByDoubts 121 = .ok (.iconst 0, 1) := by decide +kernel
theorem dX10_printByDoubts_122 : decode cX10_printByDoubts 122 = .ok (.invokevirtual 56, 3) := by decide +kernel
theorem dX10_printByDoubts_125 : decode cX10_printByDoubts 125 = .ok (.ireturn, 1) := by decide +kernel
theorem dX10_printByDoubts_126 : decode cX10_printByDoubts 126 = .ok (.iinc 2 1, 3) := by decide +kernel
theorem dX10_printByDoubts_129 : decode cX10_printByDoubts 129 = .ok (.goto (-127), 3) := by decide +kernel
theorem dX10_printByDoubts_132 : decode cX10_printByDoubts 132 = .ok (.aload_n 0, 1) := by decide +kernel
theorem dX10_printByDoubts_133 : decode cX10_printByDoubts 133 = .ok (.iconst 1, 1) := by decide +kernel
theorem dX10_printByDoubts_134 : decode cX10_printByDoubts 134 = .ok (.putfield 27, 3) := by decide +kernel
theorem dX10_printByDoubts_137 : decode cX10_printByDoubts 137 = .ok (.iconst 0, 1) := by decide +kernel
theorem dX10_printByDoubts_138 : decode cX10_printByDoubts 138 = .ok (.ireturn, 1) := by decide +kernel
set_option maxRecDepth 20000 in
theorem ggX10_printIn_X10_inCell : GoodIn wsX10_printIn wsX10_inCell := goodIn_ca (goodIn_r _ [6, 7, 8, 9, 10, 5, 11, 18, 19, 20, 21, 22, 23, 24, 25, 26, 27, 28, 29, 30, 31, 32, 33, 34, 35] (by decide +kernel) (by decide +kernel)) (goodIn_sub (fun _ h => List.mem_cons_of_mem _ (List.mem_append_right _ h)) (by decide +kernel))
set_option maxRecDepth 20000 in
theorem gX10_printIn_X10_inCell : GoodIn wsX10_printIn (wsV RX10 123 RX10 yX10_inCell wsX10_inCell) := goodIn_app (goodIn_of _ (by decide +kernel)) ggX10_printIn_X10_inCell
set_option maxRecDepth 20000 in
theorem ggX10_printIn_X10_isCell : GoodIn wsX10_printIn wsX10_isCell := goodIn_r _ [14, 15, 16, 5, 17] (by decide +kernel) (by decide +kernel)
set_option maxRecDepth 20000 in
theorem gX10_printIn_X10_isCell : GoodIn wsX10_printIn (va_wsS RX10 117 yX10_isCell wsX10_isCell) := goodIn_app (goodIn_of _ (by decide +kernel)) ggX10_printIn_X10_isCell
set_option maxRecDepth 20000 in
theorem ggX10_printIn_X10_p : GoodIn wsX10_printIn wsX10_p := goodIn_ca (goodIn_r _ [11, 7, 18, 19, 20, 21, 22, 23, 24, 25, 26, 27, 28, 29, 30, 31, 32, 33, 34, 35] (by decide +kernel) (by decide +kernel)) (goodIn_sub (fun _ h => List.mem_cons_of_mem _ (List.mem_append_right _ h)) (by decide +kernel))
set_option maxRecDepth 20000 in
theorem gX10_printIn_X10_p : GoodIn wsX10_printIn (wsV RX10 56 RX10 yX10_p wsX10_p) := goodIn_app (goodIn_of _ (by decide +kernel)) ggX10_printIn_X10_p
theorem dX10_printIn_0 : decode cX10_printIn 0 = .ok (.aload_n 0, 1) := by decide +kernel
theorem dX10_printIn_1 : decode cX10_printIn 1 = .ok (.iload_n 1, 1) := by decide +kernel
theorem dX10_printIn_2 : decode cX10_printIn 2 = .ok (.iload_n 2, 1) := by decide +kernel
theorem dX10_printIn_3 : decode cX10_printIn 3 = .ok (.invokevirtual 123, 3) := by decide +kernel
theorem dX10_printIn_6 : decode cX10_printIn 6 = .ok (.istore_n 3, 1) := by decide +kernel
theorem dX10_printIn_7 : decode cX10_printIn 7 = .ok (.aload_n 0, 1) := by decide +kernel
theorem dX10_printIn_8 : decode cX10_printIn 8 = .ok (.iload_n 1, 1) := by decide +kernel
theorem dX10_printIn_9 : decode cX10_printIn 9 = .ok (.iload_n 2, 1) := by decide +kernel
theorem dX10_printIn_10 : decode cX10_printIn 10 = .ok (.invokestatic 117, 3) := by decide +kernel
theorem dX10_printIn_13 : decode cX10_printIn 13 = .ok (.ifCond .ne 7, 3) := by decide +kernel
theorem dX10_printIn_16 : decode cX10_printIn 16 = .ok (.iconst 1, 1) := by decide +kernel
theorem dX10_printIn_17 : decode cX10_printIn 17 = .ok (.goto 12, 3) := by decide +kernel
theorem dX10_printIn_20 : decode cX10_printIn 20 = .ok (.iload_n 3, 1) := by decide +kernel
theorem dX10_printIn_21 : decode cX10_printIn 21 = .ok (.ifCond .ge 7, 3) := by decide +kernel
theorem dX10_printIn_24 : decode cX10_printIn 24 = .ok (.iconst 2, 1) := by decide +kernel
theorem dX10_printIn_25 : decode cX10_printIn 25 = .ok (.goto 4, 3) := by decide +kernel
theorem dX10_printIn_28 : decode cX10_printIn 28 = .ok (.iconst 0, 1) := by decide +kernel
theorem dX10_printIn_29 : decode cX10_printIn 29 = .ok (.putfield 27, 3) := by decide +kernel
theorem dX10_printIn_32 : decode cX10_printIn 32 = .ok (.aload_n 0, 1) := by decide +kernel
theorem dX10_printIn_33 : decode cX10_printIn 33 = .ok (.getfield 27, 3) := by decide +kernel
theorem dX10_printIn_36 : decode cX10_printIn 36 = .ok (.ifCond .ne 12, 3) := by decide +kernel
theorem dX10_printIn_39 : decode cX10_printIn 39 = .ok (.aload_n 0, 1) := by decide +kernel
theorem dX10_printIn_40 : decode cX10_printIn 40 = .ok (.iload_n 3, 1) := by decide +kernel
theorem dX10_printIn_41 : decode cX10_printIn 41 = .ok (.iconst 0, 1) := by decide +kernel
theorem dX10_printIn_42 : decode cX10_printIn 42 = .ok (.invokevirtual 56, 3) := by decide +kernel
theorem dX10_printIn_45 : decode cX10_printIn 45 = .ok (.goto 4, 3) := by decide +kernel
theorem dX10_printIn_48 : decode cX10_printIn 48 = .ok (.iconst 0, 1) := by decide +kernel
theorem dX10_printIn_49 : decode cX10_printIn 49 = .ok (.ireturn, 1) := by decide +kernel
set_option maxRecDepth 20000 in
theorem ggX10_printsInRow_X10_in : GoodIn wsX10_printsInRow wsX10_in := goodIn_r _ [4] (by decide +kernel) (by decide +kernel)
set_option maxRecDepth 20000 in
theorem gX10_printsInRow_X10_in : GoodIn wsX10_printsInRow (va_wsS RX10 60 yX10_in wsX10_in) := goodIn_app (goodIn_of _ (by decide +kernel)) ggX10_printsInRow_X10_in
set_option maxRecDepth 20000 in
theorem ggX10_printsInRow_X10_isFine : GoodIn wsX10_printsInRow wsX10_isFine := goodIn_r _ [8, 9, 19, 20, 21, 22, 23, 24, 25, 26, 27, 28, 29, 30, 31, 32, 33, 34, 35, 36] (by decide +kernel) (by decide +kernel)
set_option maxRecDepth 20000 in
theorem gX10_printsInRow_X10_isFine : GoodIn wsX10_printsInRow (wsV RX10 49 RX10 yX10_isFine wsX10_isFine) := goodIn_app (goodIn_of _ (by decide +kernel)) ggX10_printsInRow_X10_isFine
set_option maxRecDepth 20000 in
theorem ggX10_printsInRow_X10_belowRow : GoodIn wsX10_printsInRow wsX10_belowRow := goodIn_ca (goodIn_r _ [13, 14, 15, 16, 17, 3, 18, 19, 20, 21, 22, 23, 24, 25, 26, 27, 28, 29, 30, 31, 32, 33, 34, 35, 36] (by decide +kernel) (by decide +kernel)) (goodIn_sub (fun _ h => List.mem_cons_of_mem _ (List.mem_append_right _ h)) (by decide +kernel))
set_option maxRecDepth 20000 in
theorem gX10_printsInRow_X10_belowRow : GoodIn wsX10_printsInRow (wsV RX10 154 RX10 yX10_belowRow wsX10_belowRow) := goodIn_app (goodIn_of _ (by decide +kernel)) ggX10_printsInRow_X10_belowRow
theorem dX10_printsInRow_0 : decode cX10_printsInRow 0 = .ok (.aload_n 0, 1) := by decide +kernel
theorem dX10_printsInRow_1 : decode cX10_printsInRow 1 = .ok (.iload_n 1, 1) := by decide +kernel
theorem dX10_printsInRow_2 : decode cX10_printsInRow 2 = .ok (.iconst 0, 1) := by decide +kernel
theorem dX10_printsInRow_3 : decode cX10_printsInRow 3 = .ok (.bipush 9, 2) := by decide +kernel
theorem dX10_printsInRow_5 : decode cX10_printsInRow 5 = .ok (.invokestatic 60, 3) := by decide +kernel
theorem dX10_printsInRow_8 : decode cX10_printsInRow 8 = .ok (.invokevirtual 49, 3) := by decide +kernel
theorem dX10_printsInRow_11 : decode cX10_printsInRow 11 = .ok (.ifCond .eq 19, 3) := by decide +kernel
theorem dX10_printsInRow_14 : decode cX10_printsInRow 14 = .ok (.aload_n 0, 1) := by decide +kernel
theorem dX10_printsInRow_15 : decode cX10_printsInRow 15 = .ok (.iload_n 1, 1) := by decide +kernel
theorem dX10_printsInRow_16 : decode cX10_printsInRow 16 = .ok (.iconst 1, 1) := by decide +kernel
theorem dX10_printsInRow_17 : decode cX10_printsInRow 17 = .ok (.iadd, 1) := by decide +kernel
theorem dX10_printsInRow_18 : decode cX10_printsInRow 18 = .ok (.invokevirtual 154, 3) := by decide +kernel
theorem dX10_printsInRow_21 : decode cX10_printsInRow 21 = .ok (.aload_n 0, 1) := by decide +kernel
theorem dX10_printsInRow_22 : decode cX10_printsInRow 22 = .ok (.iload_n 1, 1) := by decide +kernel
theorem dX10_printsInRow_23 : decode cX10_printsInRow 23 = .ok (.invokevirtual 154, 3) := by decide +kernel
theorem dX10_printsInRow_26 : decode cX10_printsInRow 26 = .ok (.isub, 1) := by decide +kernel
theorem dX10_printsInRow_27 : decode cX10_printsInRow 27 = .ok (.goto 4, 3) := by decide +kernel
theorem dX10_printsInRow_30 : decode cX10_printsInRow 30 = .ok (.iconst 0, 1) := by decide +kernel
theorem dX10_printsInRow_31 : decode cX10_printsInRow 31 = .ok (.ireturn, 1) := by decide +kernel
theorem dX10_tideLevel_0 : decode cX10_tideLevel 0 = .ok (.aload_n 0, 1) := by decide +kernel
theorem dX10_tideLevel_1 : decode cX10_tideLevel 1 = .ok (.iconst 0, 1) := by decide +kernel
theorem dX10_tideLevel_2 : decode cX10_tideLevel 2 = .ok (.putfield 27, 3) := by decide +kernel
theorem dX10_tideLevel_5 : decode cX10_tideLevel 5 = .ok (.aload_n 0, 1) := by decide +kernel
theorem dX10_tideLevel_6 : decode cX10_tideLevel 6 = .ok (.getfield 9, 3) := by decide +kernel
theorem dX10_tideLevel_9 : decode cX10_tideLevel 9 = .ok (.iconst 4, 1) := by decide +kernel
theorem dX10_tideLevel_10 : decode cX10_tideLevel 10 = .ok (.iaload, 1) := by decide +kernel
theorem dX10_tideLevel_11 : decode cX10_tideLevel 11 = .ok (.ireturn, 1) := by decide +kernel
set_option maxRecDepth 20000 in
theorem ggX10_erasedBy_X10_in : GoodIn wsX10_erasedBy wsX10_in := goodIn_r _ [4] (by decide +kernel) (by decide +kernel)
set_option maxRecDepth 20000 in
theorem gX10_erasedBy_X10_in : GoodIn wsX10_erasedBy (va_wsS RX10 60 yX10_in wsX10_in) := goodIn_app (goodIn_of _ (by decide +kernel)) ggX10_erasedBy_X10_in
set_option maxRecDepth 20000 in
theorem ggX10_erasedBy_X10_isFine : GoodIn wsX10_erasedBy wsX10_isFine := goodIn_r _ [8, 9, 19, 20, 21, 22, 23, 24, 25, 26, 27, 28, 29, 30, 31, 32, 33, 34, 35, 36] (by decide +kernel) (by decide +kernel)
set_option maxRecDepth 20000 in
theorem gX10_erasedBy_X10_isFine : GoodIn wsX10_erasedBy (wsV RX10 49 RX10 yX10_isFine wsX10_isFine) := goodIn_app (goodIn_of _ (by decide +kernel)) ggX10_erasedBy_X10_isFine
set_option maxRecDepth 20000 in
theorem ggX10_erasedBy_X10_belowRow : GoodIn wsX10_erasedBy wsX10_belowRow := goodIn_ca (goodIn_r _ [13, 14, 15, 16, 17, 3, 18, 19, 20, 21, 22, 23, 24, 25, 26, 27, 28, 29, 30, 31, 32, 33, 34, 35, 36] (by decide +kernel) (by decide +kernel)) (goodIn_sub (fun _ h => List.mem_cons_of_mem _ (List.mem_append_right _ h)) (by decide +kernel))
set_option maxRecDepth 20000 in
theorem gX10_erasedBy_X10_belowRow : GoodIn wsX10_erasedBy (wsV RX10 154 RX10 yX10_belowRow wsX10_belowRow) := goodIn_app (goodIn_of _ (by decide +kernel)) ggX10_erasedBy_X10_belowRow
theorem dX10_erasedBy_0 : decode cX10_erasedBy 0 = .ok (.aload_n 0, 1) := by decide +kernel
theorem dX10_erasedBy_1 : decode cX10_erasedBy 1 = .ok (.iload_n 1, 1) := by decide +kernel
theorem dX10_erasedBy_2 : decode cX10_erasedBy 2 = .ok (.iconst 0, 1) := by decide +kernel
theorem dX10_erasedBy_3 : decode cX10_erasedBy 3 = .ok (.bipush 8, 2) := by decide +kernel
theorem dX10_erasedBy_5 : decode cX10_erasedBy 5 = .ok (.invokestatic 60, 3) := by decide +kernel
theorem dX10_erasedBy_8 : decode cX10_erasedBy 8 = .ok (.invokevirtual 49, 3) := by decide +kernel
theorem dX10_erasedBy_11 : decode cX10_erasedBy 11 = .ok (.ifCond .eq 11, 3) := by decide +kernel
theorem dX10_erasedBy_14 : decode cX10_erasedBy 14 = .ok (.aload_n 0, 1) := by decide +kernel
theorem dX10_erasedBy_15 : decode cX10_erasedBy 15 = .ok (.iload_n 1, 1) := by decide +kernel
theorem dX10_erasedBy_16 : decode cX10_erasedBy 16 = .ok (.invokevirtual 154, 3) := by decide +kernel
theorem dX10_erasedBy_19 : decode cX10_erasedBy 19 = .ok (.goto 4, 3) := by decide +kernel
theorem dX10_erasedBy_22 : decode cX10_erasedBy 22 = .ok (.iconst 0, 1) := by decide +kernel
theorem dX10_erasedBy_23 : decode cX10_erasedBy 23 = .ok (.ireturn, 1) := by decide +kernel
theorem dX10_trackCount_0 : decode cX10_trackCount 0 = .ok (.aload_n 0, 1) := by decide +kernel
theorem dX10_trackCount_1 : decode cX10_trackCount 1 = .ok (.iconst 0, 1) := by decide +kernel
theorem dX10_trackCount_2 : decode cX10_trackCount 2 = .ok (.putfield 27, 3) := by decide +kernel
theorem dX10_trackCount_5 : decode cX10_trackCount 5 = .ok (.aload_n 0, 1) := by decide +kernel
theorem dX10_trackCount_6 : decode cX10_trackCount 6 = .ok (.getfield 9, 3) := by decide +kernel
theorem dX10_trackCount_9 : decode cX10_trackCount 9 = .ok (.iconst 0, 1) := by decide +kernel
theorem dX10_trackCount_10 : decode cX10_trackCount 10 = .ok (.iaload, 1) := by decide +kernel
theorem dX10_trackCount_11 : decode cX10_trackCount 11 = .ok (.ireturn, 1) := by decide +kernel
theorem dX10_totalPrints_0 : decode cX10_totalPrints 0 = .ok (.aload_n 0, 1) := by decide +kernel
theorem dX10_totalPrints_1 : decode cX10_totalPrints 1 = .ok (.iconst 0, 1) := by decide +kernel
theorem dX10_totalPrints_2 : decode cX10_totalPrints 2 = .ok (.putfield 27, 3) := by decide +kernel
theorem dX10_totalPrints_5 : decode cX10_totalPrints 5 = .ok (.aload_n 0, 1) := by decide +kernel
theorem dX10_totalPrints_6 : decode cX10_totalPrints 6 = .ok (.getfield 9, 3) := by decide +kernel
theorem dX10_totalPrints_9 : decode cX10_totalPrints 9 = .ok (.iconst 1, 1) := by decide +kernel
theorem dX10_totalPrints_10 : decode cX10_totalPrints 10 = .ok (.iaload, 1) := by decide +kernel
theorem dX10_totalPrints_11 : decode cX10_totalPrints 11 = .ok (.ireturn, 1) := by decide +kernel
theorem dX10_erasedPrints_0 : decode cX10_erasedPrints 0 = .ok (.aload_n 0, 1) := by decide +kernel
theorem dX10_erasedPrints_1 : decode cX10_erasedPrints 1 = .ok (.iconst 0, 1) := by decide +kernel
theorem dX10_erasedPrints_2 : decode cX10_erasedPrints 2 = .ok (.putfield 27, 3) := by decide +kernel
theorem dX10_erasedPrints_5 : decode cX10_erasedPrints 5 = .ok (.aload_n 0, 1) := by decide +kernel
theorem dX10_erasedPrints_6 : decode cX10_erasedPrints 6 = .ok (.getfield 9, 3) := by decide +kernel
theorem dX10_erasedPrints_9 : decode cX10_erasedPrints 9 = .ok (.iconst 5, 1) := by decide +kernel
theorem dX10_erasedPrints_10 : decode cX10_erasedPrints 10 = .ok (.iaload, 1) := by decide +kernel
theorem dX10_erasedPrints_11 : decode cX10_erasedPrints 11 = .ok (.ireturn, 1) := by decide +kernel
theorem dX10_correctedHeels_0 : decode cX10_correctedHeels 0 = .ok (.aload_n 0, 1) := by decide +kernel
theorem dX10_correctedHeels_1 : decode cX10_correctedHeels 1 = .ok (.iconst 0, 1) := by decide +kernel
theorem dX10_correctedHeels_2 : decode cX10_correctedHeels 2 = .ok (.putfield 27, 3) := by decide +kernel
theorem dX10_correctedHeels_5 : decode cX10_correctedHeels 5 = .ok (.aload_n 0, 1) := by decide +kernel
theorem dX10_correctedHeels_6 : decode cX10_correctedHeels 6 = .ok (.getfield 9, 3) := by decide +kernel
theorem dX10_correctedHeels_9 : decode cX10_correctedHeels 9 = .ok (.bipush 6, 2) := by decide +kernel
theorem dX10_correctedHeels_11 : decode cX10_correctedHeels 11 = .ok (.iaload, 1) := by decide +kernel
theorem dX10_correctedHeels_12 : decode cX10_correctedHeels 12 = .ok (.ireturn, 1) := by decide +kernel
set_option maxRecDepth 20000 in
theorem ggX10_lateShare_X10_isFine : GoodIn wsX10_lateShare wsX10_isFine := goodIn_r _ [6, 7, 12, 13, 14, 15, 16, 17, 18, 19, 20, 21, 22, 23, 24, 25, 26, 27, 28, 29] (by decide +kernel) (by decide +kernel)
set_option maxRecDepth 20000 in
theorem gX10_lateShare_X10_isFine : GoodIn wsX10_lateShare (wsV RX10 49 RX10 yX10_isFine wsX10_isFine) := goodIn_app (goodIn_of _ (by decide +kernel)) ggX10_lateShare_X10_isFine
set_option maxRecDepth 20000 in
theorem ggX10_lateShare_X10_p : GoodIn wsX10_lateShare wsX10_p := goodIn_ca (goodIn_r _ [11, 1, 12, 13, 14, 15, 16, 17, 18, 19, 20, 21, 22, 23, 24, 25, 26, 27, 28, 29] (by decide +kernel) (by decide +kernel)) (goodIn_sub (fun _ h => List.mem_cons_of_mem _ (List.mem_append_right _ h)) (by decide +kernel))
set_option maxRecDepth 20000 in
theorem gX10_lateShare_X10_p : GoodIn wsX10_lateShare (wsV RX10 56 RX10 yX10_p wsX10_p) := goodIn_app (goodIn_of _ (by decide +kernel)) ggX10_lateShare_X10_p
theorem dX10_lateShare_0 : decode cX10_lateShare 0 = .ok (.aload_n 0, 1) := by decide +kernel
theorem dX10_lateShare_1 : decode cX10_lateShare 1 = .ok (.getfield 9, 3) := by decide +kernel
theorem dX10_lateShare_4 : decode cX10_lateShare 4 = .ok (.iconst 1, 1) := by decide +kernel
theorem dX10_lateShare_5 : decode cX10_lateShare 5 = .ok (.iaload, 1) := by decide +kernel
theorem dX10_lateShare_6 : decode cX10_lateShare 6 = .ok (.istore_n 1, 1) := by decide +kernel
theorem dX10_lateShare_7 : decode cX10_lateShare 7 = .ok (.aload_n 0, 1) := by decide +kernel
theorem dX10_lateShare_8 : decode cX10_lateShare 8 = .ok (.iload_n 1, 1) := by decide +kernel
theorem dX10_lateShare_9 : decode cX10_lateShare 9 = .ok (.ifCond .le 7, 3) := by decide +kernel
theorem dX10_lateShare_12 : decode cX10_lateShare 12 = .ok (.iconst 1, 1) := by decide +kernel
theorem dX10_lateShare_13 : decode cX10_lateShare 13 = .ok (.goto 4, 3) := by decide +kernel
theorem dX10_lateShare_16 : decode cX10_lateShare 16 = .ok (.iconst 0, 1) := by decide +kernel
theorem dX10_lateShare_17 : decode cX10_lateShare 17 = .ok (.invokevirtual 49, 3) := by decide +kernel
theorem dX10_lateShare_20 : decode cX10_lateShare 20 = .ok (.ifCond .ne 5, 3) := by decide +kernel
theorem dX10_lateShare_23 : decode cX10_lateShare 23 = .ok (.fconst 0, 1) := by decide +kernel
theorem dX10_lateShare_24 : decode cX10_lateShare 24 = .ok (.freturn, 1) := by decide +kernel
theorem dX10_lateShare_25 : decode cX10_lateShare 25 = .ok (.iconst 0, 1) := by decide +kernel
theorem dX10_lateShare_26 : decode cX10_lateShare 26 = .ok (.istore_n 2, 1) := by decide +kernel
theorem dX10_lateShare_27 : decode cX10_lateShare 27 = .ok (.iconst 0, 1) := by decide +kernel
theorem dX10_lateShare_28 : decode cX10_lateShare 28 = .ok (.istore_n 3, 1) := by decide +kernel
theorem dX10_lateShare_29 : decode cX10_lateShare 29 = .ok (.iload_n 3, 1) := by decide +kernel
theorem dX10_lateShare_30 : decode cX10_lateShare 30 = .ok (.iload_n 1, 1) := by decide +kernel
theorem dX10_lateShare_31 : decode cX10_lateShare 31 = .ok (.if_icmp .ge 19, 3) := by decide +kernel
theorem dX10_lateShare_34 : decode cX10_lateShare 34 = .ok (.iload_n 2, 1) := by decide +kernel
theorem dX10_lateShare_35 : decode cX10_lateShare 35 = .ok (.aload_n 0, 1) := by decide +kernel
theorem dX10_lateShare_36 : decode cX10_lateShare 36 = .ok (.iload_n 3, 1) := by decide +kernel
theorem dX10_lateShare_37 : decode cX10_lateShare 37 = .ok (.bipush 8, 2) := by decide +kernel
theorem dX10_lateShare_39 : decode cX10_lateShare 39 = .ok (.invokevirtual 56, 3) := by decide +kernel
theorem dX10_lateShare_42 : decode cX10_lateShare 42 = .ok (.iadd, 1) := by decide +kernel
theorem dX10_lateShare_43 : decode cX10_lateShare 43 = .ok (.istore_n 2, 1) := by decide +kernel
theorem dX10_lateShare_44 : decode cX10_lateShare 44 = .ok (.iinc 3 1, 3) := by decide +kernel
theorem dX10_lateShare_47 : decode cX10_lateShare 47 = .ok (.goto (-18), 3) := by decide +kernel
theorem dX10_lateShare_50 : decode cX10_lateShare 50 = .ok (.iload_n 2, 1) := by decide +kernel
theorem dX10_lateShare_51 : decode cX10_lateShare 51 = .ok (.i2f, 1) := by decide +kernel
theorem dX10_lateShare_52 : decode cX10_lateShare 52 = .ok (.iload_n 1, 1) := by decide +kernel
theorem dX10_lateShare_53 : decode cX10_lateShare 53 = .ok (.i2f, 1) := by decide +kernel
theorem dX10_lateShare_54 : decode cX10_lateShare 54 = .ok (.fdiv, 1) := by decide +kernel
theorem dX10_lateShare_55 : decode cX10_lateShare 55 = .ok (.freturn, 1) := by decide +kernel
theorem dX10_isConsistent_0 : decode cX10_isConsistent 0 = .ok (.aload_n 0, 1) := by decide +kernel
theorem dX10_isConsistent_1 : decode cX10_isConsistent 1 = .ok (.iconst 0, 1) := by decide +kernel
theorem dX10_isConsistent_2 : decode cX10_isConsistent 2 = .ok (.putfield 27, 3) := by decide +kernel
theorem dX10_isConsistent_5 : decode cX10_isConsistent 5 = .ok (.iconst 1, 1) := by decide +kernel
theorem dX10_isConsistent_6 : decode cX10_isConsistent 6 = .ok (.ireturn, 1) := by decide +kernel
theorem dX10_writes_0 : decode cX10_writes 0 = .ok (.aload_n 0, 1) := by decide +kernel
theorem dX10_writes_1 : decode cX10_writes 1 = .ok (.getfield 13, 3) := by decide +kernel
theorem dX10_writes_4 : decode cX10_writes 4 = .ok (.aload_n 0, 1) := by decide +kernel
theorem dX10_writes_5 : decode cX10_writes 5 = .ok (.getfield 190, 3) := by decide +kernel
theorem dX10_writes_8 : decode cX10_writes 8 = .ok (.iload_n 1, 1) := by decide +kernel
theorem dX10_writes_9 : decode cX10_writes 9 = .ok (.i2c, 1) := by decide +kernel
theorem dX10_writes_10 : decode cX10_writes 10 = .ok (.castore, 1) := by decide +kernel
theorem dX10_writes_11 : decode cX10_writes 11 = .ok (.aload_n 0, 1) := by decide +kernel
theorem dX10_writes_12 : decode cX10_writes 12 = .ok (.dup, 1) := by decide +kernel
theorem dX10_writes_13 : decode cX10_writes 13 = .ok (.getfield 190, 3) := by decide +kernel
theorem dX10_writes_16 : decode cX10_writes 16 = .ok (.iconst 1, 1) := by decide +kernel
theorem dX10_writes_17 : decode cX10_writes 17 = .ok (.iadd, 1) := by decide +kernel
theorem dX10_writes_18 : decode cX10_writes 18 = .ok (.putfield 190, 3) := by decide +kernel
theorem dX10_writes_21 : decode cX10_writes 21 = .ok (.return_, 1) := by decide +kernel
set_option maxRecDepth 20000 in
theorem ggX10_writeTrack_X10_findTrack : GoodIn wsX10_writeTrack wsX10_findTrack := goodIn_ca (goodIn_r _ [6, 7, 53, 54, 55, 56, 57, 58, 59, 60, 61, 62, 63, 64, 65, 66, 67, 68, 69, 70] (by decide +kernel) (by decide +kernel)) (goodIn_sub (fun _ h => List.mem_cons_of_mem _ (List.mem_append_right _ h)) (by decide +kernel))
set_option maxRecDepth 20000 in
theorem gX10_writeTrack_X10_findTrack : GoodIn wsX10_writeTrack (wsV RX10 79 RX10 yX10_findTrack wsX10_findTrack) := goodIn_app (goodIn_of _ (by decide +kernel)) ggX10_writeTrack_X10_findTrack
set_option maxRecDepth 20000 in
theorem ggX10_writeTrack_X10_isFine : GoodIn wsX10_writeTrack wsX10_isFine := goodIn_r _ [11, 12, 53, 54, 55, 56, 57, 58, 59, 60, 61, 62, 63, 64, 65, 66, 67, 68, 69, 70] (by decide +kernel) (by decide +kernel)
set_option maxRecDepth 20000 in
theorem gX10_writeTrack_X10_isFine : GoodIn wsX10_writeTrack (wsV RX10 49 RX10 yX10_isFine wsX10_isFine) := goodIn_app (goodIn_of _ (by decide +kernel)) ggX10_writeTrack_X10_isFine
set_option maxRecDepth 20000 in
theorem ggX10_writeTrack_X10_countOf : GoodIn wsX10_writeTrack wsX10_countOf := goodIn_ca (goodIn_r _ [16, 7, 17, 18, 19, 5, 20, 53, 54, 55, 56, 57, 58, 59, 60, 61, 62, 63, 64, 65, 66, 67, 68, 69, 70] (by decide +kernel) (by decide +kernel)) (goodIn_sub (fun _ h => List.mem_cons_of_mem _ (List.mem_append_right _ h)) (by decide +kernel))
set_option maxRecDepth 20000 in
theorem gX10_writeTrack_X10_countOf : GoodIn wsX10_writeTrack (wsV RX10 107 RX10 yX10_countOf wsX10_countOf) := goodIn_app (goodIn_of _ (by decide +kernel)) ggX10_writeTrack_X10_countOf
set_option maxRecDepth 20000 in
theorem ggX10_writeTrack_X10_printOf : GoodIn wsX10_writeTrack wsX10_printOf := goodIn_ca (goodIn_r _ [24, 7, 17, 18, 19, 5, 20, 53, 54, 55, 56, 57, 58, 59, 60, 61, 62, 63, 64, 65, 66, 67, 68, 69, 70] (by decide +kernel) (by decide +kernel)) (goodIn_sub (fun _ h => List.mem_cons_of_mem _ (List.mem_append_right _ h)) (by decide +kernel))
set_option maxRecDepth 20000 in
theorem gX10_writeTrack_X10_printOf : GoodIn wsX10_writeTrack (wsV RX10 169 RX10 yX10_printOf wsX10_printOf) := goodIn_app (goodIn_of _ (by decide +kernel)) ggX10_writeTrack_X10_printOf
set_option maxRecDepth 20000 in
theorem ggX10_writeTrack_X10_p : GoodIn wsX10_writeTrack wsX10_p := goodIn_ca (goodIn_r _ [20, 7, 53, 54, 55, 56, 57, 58, 59, 60, 61, 62, 63, 64, 65, 66, 67, 68, 69, 70] (by decide +kernel) (by decide +kernel)) (goodIn_sub (fun _ h => List.mem_cons_of_mem _ (List.mem_append_right _ h)) (by decide +kernel))
set_option maxRecDepth 20000 in
theorem gX10_writeTrack_X10_p : GoodIn wsX10_writeTrack (wsV RX10 56 RX10 yX10_p wsX10_p) := goodIn_app (goodIn_of _ (by decide +kernel)) ggX10_writeTrack_X10_p
set_option maxRecDepth 20000 in
theorem ggX10_writeTrack_X10_writes : GoodIn wsX10_writeTrack wsX10_writes := goodIn_ca (goodIn_r _ [28, 29, 1, 53, 54, 55, 56, 57, 58, 59, 60, 61, 62, 63, 64, 65, 66, 67, 68, 69, 70] (by decide +kernel) (by decide +kernel)) (goodIn_sub (fun _ h => List.mem_cons_of_mem _ (List.mem_append_right _ h)) (by decide +kernel))
set_option maxRecDepth 20000 in
theorem gX10_writeTrack_X10_writes : GoodIn wsX10_writeTrack (wsV RX10 193 RX10 yX10_writes wsX10_writes) := goodIn_app (goodIn_of _ (by decide +kernel)) ggX10_writeTrack_X10_writes
set_option maxRecDepth 20000 in
theorem ggX10_writeTrack_X10_errorsAt : GoodIn wsX10_writeTrack wsX10_errorsAt := goodIn_ca (goodIn_r _ [33, 34, 35, 36, 5, 37, 7, 38, 39, 40, 41, 17, 18, 19, 20, 42, 43, 44, 45, 46, 47, 48, 49, 50, 51, 52, 2, 3, 4, 6, 53, 54, 55, 56, 57, 58, 59, 60, 61, 62, 63, 64, 65, 66, 67, 68, 69, 70] (by decide +kernel) (by decide +kernel)) (goodIn_sub (fun _ h => List.mem_cons_of_mem _ (List.mem_append_right _ h)) (by decide +kernel))
set_option maxRecDepth 20000 in
theorem gX10_writeTrack_X10_errorsAt : GoodIn wsX10_writeTrack (wsV RX10 86 RX10 yX10_errorsAt wsX10_errorsAt) := goodIn_app (goodIn_of _ (by decide +kernel)) ggX10_writeTrack_X10_errorsAt
theorem dX10_writeTrack_0 : decode cX10_writeTrack 0 = .ok (.aload_n 0, 1) := by decide +kernel
theorem dX10_writeTrack_1 : decode cX10_writeTrack 1 = .ok (.aload_n 0, 1) := by decide +kernel
theorem dX10_writeTrack_2 : decode cX10_writeTrack 2 = .ok (.iload_n 1, 1) := by decide +kernel
theorem dX10_writeTrack_3 : decode cX10_writeTrack 3 = .ok (.invokevirtual 79, 3) := by decide +kernel
theorem dX10_writeTrack_6 : decode cX10_writeTrack 6 = .ok (.ifCond .lt 7, 3) := by decide +kernel
theorem dX10_writeTrack_9 : decode cX10_writeTrack 9 = .ok (.iconst 1, 1) := by decide +kernel
theorem dX10_writeTrack_10 : decode cX10_writeTrack 10 = .ok (.goto 4, 3) := by decide +kernel
theorem dX10_writeTrack_13 : decode cX10_writeTrack 13 = .ok (.iconst 0, 1) := by decide +kernel
theorem dX10_writeTrack_14 : decode cX10_writeTrack 14 = .ok (.invokevirtual 49, 3) := by decide +kernel
theorem dX10_writeTrack_17 : decode cX10_writeTrack 17 = .ok (.ifCond .ne 5, 3) := by decide +kernel
theorem dX10_writeTrack_20 : decode cX10_writeTrack 20 = .ok (.iconst 0, 1) := by decide +kernel
theorem dX10_writeTrack_21 : decode cX10_writeTrack 21 = .ok (.ireturn, 1) := by decide +kernel
theorem dX10_writeTrack_22 : decode cX10_writeTrack 22 = .ok (.aload_n 0, 1) := by decide +kernel
theorem dX10_writeTrack_23 : decode cX10_writeTrack 23 = .ok (.iconst 0, 1) := by decide +kernel
theorem dX10_writeTrack_24 : decode cX10_writeTrack 24 = .ok (.putfield 190, 3) := by decide +kernel
theorem dX10_writeTrack_27 : decode cX10_writeTrack 27 = .ok (.iconst 0, 1) := by decide +kernel
theorem dX10_writeTrack_28 : decode cX10_writeTrack 28 = .ok (.istore_n 2, 1) := by decide +kernel
theorem dX10_writeTrack_29 : decode cX10_writeTrack 29 = .ok (.iload_n 2, 1) := by decide +kernel
theorem dX10_writeTrack_30 : decode cX10_writeTrack 30 = .ok (.aload_n 0, 1) := by decide +kernel
theorem dX10_writeTrack_31 : decode cX10_writeTrack 31 = .ok (.iload_n 1, 1) := by decide +kernel
theorem dX10_writeTrack_32 : decode cX10_writeTrack 32 = .ok (.invokevirtual 107, 3) := by decide +kernel
theorem dX10_writeTrack_35 : decode cX10_writeTrack 35 = .ok (.if_icmp .ge 67, 3) := by decide +kernel
theorem dX10_writeTrack_38 : decode cX10_writeTrack 38 = .ok (.aload_n 0, 1) := by decide +kernel
theorem dX10_writeTrack_39 : decode cX10_writeTrack 39 = .ok (.iload_n 1, 1) := by decide +kernel
theorem dX10_writeTrack_40 : decode cX10_writeTrack 40 = .ok (.iload_n 2, 1) := by decide +kernel
theorem dX10_writeTrack_41 : decode cX10_writeTrack 41 = .ok (.invokevirtual 169, 3) := by decide +kernel
theorem dX10_writeTrack_44 : decode cX10_writeTrack 44 = .ok (.istore_n 3, 1) := by decide +kernel
theorem dX10_writeTrack_45 : decode cX10_writeTrack 45 = .ok (.aload_n 0, 1) := by decide +kernel
theorem dX10_writeTrack_46 : decode cX10_writeTrack 46 = .ok (.aload_n 0, 1) := by decide +kernel
theorem dX10_writeTrack_47 : decode cX10_writeTrack 47 = .ok (.iload_n 3, 1) := by decide +kernel
theorem dX10_writeTrack_48 : decode cX10_writeTrack 48 = .ok (.iconst 5, 1) := by decide +kernel
theorem dX10_writeTrack_49 : decode cX10_writeTrack 49 = .ok (.invokevirtual 56, 3) := by decide +kernel
theorem dX10_writeTrack_52 : decode cX10_writeTrack 52 = .ok (.iconst 1, 1) := by decide +kernel
theorem dX10_writeTrack_53 : decode cX10_writeTrack 53 = .ok (.if_icmp .ne 8, 3) := by decide +kernel
theorem dX10_writeTrack_56 : decode cX10_writeTrack 56 = .ok (.bipush 76, 2) := by decide +kernel
theorem dX10_writeTrack_58 : decode cX10_writeTrack 58 = .ok (.goto 5, 3) := by decide +kernel
theorem dX10_writeTrack_61 : decode cX10_writeTrack 61 = .ok (.bipush 82, 2) := by decide +kernel
theorem dX10_writeTrack_63 : decode cX10_writeTrack 63 = .ok (.invokevirtual 193, 3) := by decide +kernel
theorem dX10_writeTrack_66 : decode cX10_writeTrack 66 = .ok (.aload_n 0, 1) := by decide +kernel
theorem dX10_writeTrack_67 : decode cX10_writeTrack 67 = .ok (.iload_n 3, 1) := by decide +kernel
theorem dX10_writeTrack_68 : decode cX10_writeTrack 68 = .ok (.bipush 7, 2) := by decide +kernel
theorem dX10_writeTrack_70 : decode cX10_writeTrack 70 = .ok (.invokevirtual 56, 3) := by decide +kernel
theorem dX10_writeTrack_73 : decode cX10_writeTrack 73 = .ok (.ifCond .le 9, 3) := by decide +kernel
theorem dX10_writeTrack_76 : decode cX10_writeTrack 76 = .ok (.aload_n 0, 1) := by decide +kernel
theorem dX10_writeTrack_77 : decode cX10_writeTrack 77 = .ok (.bipush 63, 2) := by decide +kernel
theorem dX10_writeTrack_79 : decode cX10_writeTrack 79 = .ok (.invokevirtual 193, 3) := by decide +kernel
theorem dX10_writeTrack_82 : decode cX10_writeTrack 82 = .ok (.aload_n 0, 1) := by decide +kernel
theorem dX10_writeTrack_83 : decode cX10_writeTrack 83 = .ok (.iload_n 3, 1) := by decide +kernel
theorem dX10_writeTrack_84 : decode cX10_writeTrack 84 = .ok (.invokevirtual 86, 3) := by decide +kernel
theorem dX10_writeTrack_87 : decode cX10_writeTrack 87 = .ok (.ifCond .le 9, 3) := by decide +kernel
theorem dX10_writeTrack_90 : decode cX10_writeTrack 90 = .ok (.aload_n 0, 1) := by decide +kernel
theorem dX10_writeTrack_91 : decode cX10_writeTrack 91 = .ok (.bipush 33, 2) := by decide +kernel
theorem dX10_writeTrack_93 : decode cX10_writeTrack 93 = .ok (.invokevirtual 193, 3) := by decide +kernel
theorem dX10_writeTrack_96 : decode cX10_writeTrack 96 = .ok (.iinc 2 1, 3) := by decide +kernel
theorem dX10_writeTrack_99 : decode cX10_writeTrack 99 = .ok (.goto (-70), 3) := by decide +kernel
theorem dX10_writeTrack_102 : decode cX10_writeTrack 102 = .ok (.aload_n 0, 1) := by decide +kernel
theorem dX10_writeTrack_103 : decode cX10_writeTrack 103 = .ok (.getfield 190, 3) := by decide +kernel
theorem dX10_writeTrack_106 : decode cX10_writeTrack 106 = .ok (.ireturn, 1) := by decide +kernel
set_option maxRecDepth 20000 in
theorem ggX10_writeRow_X10_in : GoodIn wsX10_writeRow wsX10_in := goodIn_r _ [6] (by decide +kernel) (by decide +kernel)
set_option maxRecDepth 20000 in
theorem gX10_writeRow_X10_in : GoodIn wsX10_writeRow (va_wsS RX10 60 yX10_in wsX10_in) := goodIn_app (goodIn_of _ (by decide +kernel)) ggX10_writeRow_X10_in
set_option maxRecDepth 20000 in
theorem ggX10_writeRow_X10_isFine : GoodIn wsX10_writeRow wsX10_isFine := goodIn_r _ [10, 11, 25, 26, 27, 28, 29, 30, 31, 32, 33, 34, 35, 36, 37, 38, 39, 40, 41, 42] (by decide +kernel) (by decide +kernel)
set_option maxRecDepth 20000 in
theorem gX10_writeRow_X10_isFine : GoodIn wsX10_writeRow (wsV RX10 49 RX10 yX10_isFine wsX10_isFine) := goodIn_app (goodIn_of _ (by decide +kernel)) ggX10_writeRow_X10_isFine
set_option maxRecDepth 20000 in
theorem ggX10_writeRow_X10_inCell : GoodIn wsX10_writeRow wsX10_inCell := goodIn_ca (goodIn_r _ [15, 2, 16, 17, 18, 5, 19, 25, 26, 27, 28, 29, 30, 31, 32, 33, 34, 35, 36, 37, 38, 39, 40, 41, 42] (by decide +kernel) (by decide +kernel)) (goodIn_sub (fun _ h => List.mem_cons_of_mem _ (List.mem_append_right _ h)) (by decide +kernel))
set_option maxRecDepth 20000 in
theorem gX10_writeRow_X10_inCell : GoodIn wsX10_writeRow (wsV RX10 123 RX10 yX10_inCell wsX10_inCell) := goodIn_app (goodIn_of _ (by decide +kernel)) ggX10_writeRow_X10_inCell
set_option maxRecDepth 20000 in
theorem ggX10_writeRow_X10_p : GoodIn wsX10_writeRow wsX10_p := goodIn_ca (goodIn_r _ [19, 2, 25, 26, 27, 28, 29, 30, 31, 32, 33, 34, 35, 36, 37, 38, 39, 40, 41, 42] (by decide +kernel) (by decide +kernel)) (goodIn_sub (fun _ h => List.mem_cons_of_mem _ (List.mem_append_right _ h)) (by decide +kernel))
set_option maxRecDepth 20000 in
theorem gX10_writeRow_X10_p : GoodIn wsX10_writeRow (wsV RX10 56 RX10 yX10_p wsX10_p) := goodIn_app (goodIn_of _ (by decide +kernel)) ggX10_writeRow_X10_p
set_option maxRecDepth 20000 in
theorem ggX10_writeRow_X10_writes : GoodIn wsX10_writeRow wsX10_writes := goodIn_ca (goodIn_r _ [23, 24, 1, 25, 26, 27, 28, 29, 30, 31, 32, 33, 34, 35, 36, 37, 38, 39, 40, 41, 42] (by decide +kernel) (by decide +kernel)) (goodIn_sub (fun _ h => List.mem_cons_of_mem _ (List.mem_append_right _ h)) (by decide +kernel))
set_option maxRecDepth 20000 in
theorem gX10_writeRow_X10_writes : GoodIn wsX10_writeRow (wsV RX10 193 RX10 yX10_writes wsX10_writes) := goodIn_app (goodIn_of _ (by decide +kernel)) ggX10_writeRow_X10_writes
theorem dX10_writeRow_0 : decode cX10_writeRow 0 = .ok (.aload_n 0, 1) := by decide +kernel
theorem dX10_writeRow_1 : decode cX10_writeRow 1 = .ok (.iload_n 1, 1) := by decide +kernel
theorem dX10_writeRow_2 : decode cX10_writeRow 2 = .ok (.iconst 0, 1) := by decide +kernel
theorem dX10_writeRow_3 : decode cX10_writeRow 3 = .ok (.bipush 9, 2) := by decide +kernel
theorem dX10_writeRow_5 : decode cX10_writeRow 5 = .ok (.invokestatic 60, 3) := by decide +kernel
theorem dX10_writeRow_8 : decode cX10_writeRow 8 = .ok (.invokevirtual 49, 3) := by decide +kernel
theorem dX10_writeRow_11 : decode cX10_writeRow 11 = .ok (.ifCond .ne 5, 3) := by decide +kernel
theorem dX10_writeRow_14 : decode cX10_writeRow 14 = .ok (.iconst 0, 1) := by decide +kernel
theorem dX10_writeRow_15 : decode cX10_writeRow 15 = .ok (.ireturn, 1) := by decide +kernel
theorem dX10_writeRow_16 : decode cX10_writeRow 16 = .ok (.aload_n 0, 1) := by decide +kernel
theorem dX10_writeRow_17 : decode cX10_writeRow 17 = .ok (.iconst 0, 1) := by decide +kernel
theorem dX10_writeRow_18 : decode cX10_writeRow 18 = .ok (.putfield 190, 3) := by decide +kernel
theorem dX10_writeRow_21 : decode cX10_writeRow 21 = .ok (.iconst 0, 1) := by decide +kernel
theorem dX10_writeRow_22 : decode cX10_writeRow 22 = .ok (.istore_n 2, 1) := by decide +kernel
theorem dX10_writeRow_23 : decode cX10_writeRow 23 = .ok (.iload_n 2, 1) := by decide +kernel
theorem dX10_writeRow_24 : decode cX10_writeRow 24 = .ok (.bipush 20, 2) := by decide +kernel
theorem dX10_writeRow_26 : decode cX10_writeRow 26 = .ok (.if_icmp .ge 56, 3) := by decide +kernel
theorem dX10_writeRow_29 : decode cX10_writeRow 29 = .ok (.aload_n 0, 1) := by decide +kernel
theorem dX10_writeRow_30 : decode cX10_writeRow 30 = .ok (.iload_n 1, 1) := by decide +kernel
theorem dX10_writeRow_31 : decode cX10_writeRow 31 = .ok (.iload_n 2, 1) := by decide +kernel
theorem dX10_writeRow_32 : decode cX10_writeRow 32 = .ok (.invokevirtual 123, 3) := by decide +kernel
theorem dX10_writeRow_35 : decode cX10_writeRow 35 = .ok (.istore_n 3, 1) := by decide +kernel
theorem dX10_writeRow_36 : decode cX10_writeRow 36 = .ok (.aload_n 0, 1) := by decide +kernel
theorem dX10_writeRow_37 : decode cX10_writeRow 37 = .ok (.iload_n 1, 1) := by decide +kernel
theorem dX10_writeRow_38 : decode cX10_writeRow 38 = .ok (.aload_n 0, 1) := by decide +kernel
theorem dX10_writeRow_39 : decode cX10_writeRow 39 = .ok (.getfield 9, 3) := by decide +kernel
theorem dX10_writeRow_42 : decode cX10_writeRow 42 = .ok (.iconst 4, 1) := by decide +kernel
theorem dX10_writeRow_43 : decode cX10_writeRow 43 = .ok (.iaload, 1) := by decide +kernel
theorem dX10_writeRow_44 : decode cX10_writeRow 44 = .ok (.if_icmp .ge 8, 3) := by decide +kernel
theorem dX10_writeRow_47 : decode cX10_writeRow 47 = .ok (.bipush 126, 2) := by decide +kernel
theorem dX10_writeRow_49 : decode cX10_writeRow 49 = .ok (.goto 24, 3) := by decide +kernel
theorem dX10_writeRow_52 : decode cX10_writeRow 52 = .ok (.iload_n 3, 1) := by decide +kernel
theorem dX10_writeRow_53 : decode cX10_writeRow 53 = .ok (.ifCond .ge 8, 3) := by decide +kernel
theorem dX10_writeRow_56 : decode cX10_writeRow 56 = .ok (.bipush 46, 2) := by decide +kernel
theorem dX10_writeRow_58 : decode cX10_writeRow 58 = .ok (.goto 15, 3) := by decide +kernel
theorem dX10_writeRow_61 : decode cX10_writeRow 61 = .ok (.bipush 48, 2) := by decide +kernel
theorem dX10_writeRow_63 : decode cX10_writeRow 63 = .ok (.aload_n 0, 1) := by decide +kernel
theorem dX10_writeRow_64 : decode cX10_writeRow 64 = .ok (.iload_n 3, 1) := by decide +kernel
theorem dX10_writeRow_65 : decode cX10_writeRow 65 = .ok (.iconst 0, 1) := by decide +kernel
theorem dX10_writeRow_66 : decode cX10_writeRow 66 = .ok (.invokevirtual 56, 3) := by decide +kernel
theorem dX10_writeRow_69 : decode cX10_writeRow 69 = .ok (.bipush 10, 2) := by decide +kernel
theorem dX10_writeRow_71 : decode cX10_writeRow 71 = .ok (.irem, 1) := by decide +kernel
theorem dX10_writeRow_72 : decode cX10_writeRow 72 = .ok (.iadd, 1) := by decide +kernel
theorem dX10_writeRow_73 : decode cX10_writeRow 73 = .ok (.invokevirtual 193, 3) := by decide +kernel
theorem dX10_writeRow_76 : decode cX10_writeRow 76 = .ok (.iinc 2 1, 3) := by decide +kernel
theorem dX10_writeRow_79 : decode cX10_writeRow 79 = .ok (.goto (-56), 3) := by decide +kernel
theorem dX10_writeRow_82 : decode cX10_writeRow 82 = .ok (.aload_n 0, 1) := by decide +kernel
theorem dX10_writeRow_83 : decode cX10_writeRow 83 = .ok (.getfield 190, 3) := by decide +kernel
theorem dX10_writeRow_86 : decode cX10_writeRow 86 = .ok (.ireturn, 1) := by decide +kernel
set_option maxRecDepth 20000 in
theorem ggX10_outputAt_X10_in : GoodIn wsX10_outputAt wsX10_in := goodIn_r _ [6] (by decide +kernel) (by decide +kernel)
set_option maxRecDepth 20000 in
theorem gX10_outputAt_X10_in : GoodIn wsX10_outputAt (va_wsS RX10 60 yX10_in wsX10_in) := goodIn_app (goodIn_of _ (by decide +kernel)) ggX10_outputAt_X10_in
set_option maxRecDepth 20000 in
theorem ggX10_outputAt_X10_isFine : GoodIn wsX10_outputAt wsX10_isFine := goodIn_r _ [10, 11, 12, 13, 14, 15, 16, 17, 18, 19, 20, 21, 22, 23, 24, 25, 26, 27, 28, 29] (by decide +kernel) (by decide +kernel)
set_option maxRecDepth 20000 in
theorem gX10_outputAt_X10_isFine : GoodIn wsX10_outputAt (wsV RX10 49 RX10 yX10_isFine wsX10_isFine) := goodIn_app (goodIn_of _ (by decide +kernel)) ggX10_outputAt_X10_isFine
theorem dX10_outputAt_0 : decode cX10_outputAt 0 = .ok (.aload_n 0, 1) := by decide +kernel
theorem dX10_outputAt_1 : decode cX10_outputAt 1 = .ok (.iload_n 1, 1) := by decide +kernel
theorem dX10_outputAt_2 : decode cX10_outputAt 2 = .ok (.iconst 0, 1) := by decide +kernel
theorem dX10_outputAt_3 : decode cX10_outputAt 3 = .ok (.aload_n 0, 1) := by decide +kernel
theorem dX10_outputAt_4 : decode cX10_outputAt 4 = .ok (.getfield 190, 3) := by decide +kernel
theorem dX10_outputAt_7 : decode cX10_outputAt 7 = .ok (.iconst 1, 1) := by decide +kernel
theorem dX10_outputAt_8 : decode cX10_outputAt 8 = .ok (.isub, 1) := by decide +kernel
theorem dX10_outputAt_9 : decode cX10_outputAt 9 = .ok (.invokestatic 60, 3) := by decide +kernel
theorem dX10_outputAt_12 : decode cX10_outputAt 12 = .ok (.invokevirtual 49, 3) := by decide +kernel
theorem dX10_outputAt_15 : decode cX10_outputAt 15 = .ok (.ifCond .eq 12, 3) := by decide +kernel
theorem dX10_outputAt_18 : decode cX10_outputAt 18 = .ok (.aload_n 0, 1) := by decide +kernel
theorem dX10_outputAt_19 : decode cX10_outputAt 19 = .ok (.getfield 13, 3) := by decide +kernel
theorem dX10_outputAt_22 : decode cX10_outputAt 22 = .ok (.iload_n 1, 1) := by decide +kernel
theorem dX10_outputAt_23 : decode cX10_outputAt 23 = .ok (.caload, 1) := by decide +kernel
theorem dX10_outputAt_24 : decode cX10_outputAt 24 = .ok (.goto 4, 3) := by decide +kernel
theorem dX10_outputAt_27 : decode cX10_outputAt 27 = .ok (.iconst 0, 1) := by decide +kernel
theorem dX10_outputAt_28 : decode cX10_outputAt 28 = .ok (.ireturn, 1) := by decide +kernel
set_option maxRecDepth 20000 in
theorem ggX10_appendInput_X10_in : GoodIn wsX10_appendInput wsX10_in := goodIn_r _ [7] (by decide +kernel) (by decide +kernel)
set_option maxRecDepth 20000 in
theorem gX10_appendInput_X10_in : GoodIn wsX10_appendInput (va_wsS RX10 60 yX10_in wsX10_in) := goodIn_app (goodIn_of _ (by decide +kernel)) ggX10_appendInput_X10_in
theorem dX10_appendInput_0 : decode cX10_appendInput 0 = .ok (.aload_n 0, 1) := by decide +kernel
theorem dX10_appendInput_1 : decode cX10_appendInput 1 = .ok (.iload_n 1, 1) := by decide +kernel
theorem dX10_appendInput_2 : decode cX10_appendInput 2 = .ok (.bipush 32, 2) := by decide +kernel
theorem dX10_appendInput_4 : decode cX10_appendInput 4 = .ok (.bipush 126, 2) := by decide +kernel
theorem dX10_appendInput_6 : decode cX10_appendInput 6 = .ok (.invokestatic 60, 3) := by decide +kernel
theorem dX10_appendInput_9 : decode cX10_appendInput 9 = .ok (.ifCond .ne 7, 3) := by decide +kernel
theorem dX10_appendInput_12 : decode cX10_appendInput 12 = .ok (.iconst 1, 1) := by decide +kernel
theorem dX10_appendInput_13 : decode cX10_appendInput 13 = .ok (.goto 17, 3) := by decide +kernel
theorem dX10_appendInput_16 : decode cX10_appendInput 16 = .ok (.aload_n 0, 1) := by decide +kernel
theorem dX10_appendInput_17 : decode cX10_appendInput 17 = .ok (.getfield 196, 3) := by decide +kernel
theorem dX10_appendInput_20 : decode cX10_appendInput 20 = .ok (.bipush 60, 2) := by decide +kernel
theorem dX10_appendInput_22 : decode cX10_appendInput 22 = .ok (.if_icmp .ne 7, 3) := by decide +kernel
theorem dX10_appendInput_25 : decode cX10_appendInput 25 = .ok (.iconst 2, 1) := by decide +kernel
theorem dX10_appendInput_26 : decode cX10_appendInput 26 = .ok (.goto 4, 3) := by decide +kernel
theorem dX10_appendInput_29 : decode cX10_appendInput 29 = .ok (.iconst 0, 1) := by decide +kernel
theorem dX10_appendInput_30 : decode cX10_appendInput 30 = .ok (.putfield 27, 3) := by decide +kernel
theorem dX10_appendInput_33 : decode cX10_appendInput 33 = .ok (.aload_n 0, 1) := by decide +kernel
theorem dX10_appendInput_34 : decode cX10_appendInput 34 = .ok (.getfield 27, 3) := by decide +kernel
theorem dX10_appendInput_37 : decode cX10_appendInput 37 = .ok (.ifCond .eq 5, 3) := by decide +kernel
theorem dX10_appendInput_40 : decode cX10_appendInput 40 = .ok (.iconst 0, 1) := by decide +kernel
theorem dX10_appendInput_41 : decode cX10_appendInput 41 = .ok (.ireturn, 1) := by decide +kernel
theorem dX10_appendInput_42 : decode cX10_appendInput 42 = .ok (.aload_n 0, 1) := by decide +kernel
theorem dX10_appendInput_43 : decode cX10_appendInput 43 = .ok (.getfield 17, 3) := by decide +kernel
theorem dX10_appendInput_46 : decode cX10_appendInput 46 = .ok (.aload_n 0, 1) := by decide +kernel
theorem dX10_appendInput_47 : decode cX10_appendInput 47 = .ok (.getfield 196, 3) := by decide +kernel
theorem dX10_appendInput_50 : decode cX10_appendInput 50 = .ok (.iload_n 1, 1) := by decide +kernel
theorem dX10_appendInput_51 : decode cX10_appendInput 51 = .ok (.castore, 1) := by decide +kernel
theorem dX10_appendInput_52 : decode cX10_appendInput 52 = .ok (.aload_n 0, 1) := by decide +kernel
theorem dX10_appendInput_53 : decode cX10_appendInput 53 = .ok (.dup, 1) := by decide +kernel
theorem dX10_appendInput_54 : decode cX10_appendInput 54 = .ok (.getfield 196, 3) := by decide +kernel
theorem dX10_appendInput_57 : decode cX10_appendInput 57 = .ok (.iconst 1, 1) := by decide +kernel
theorem dX10_appendInput_58 : decode cX10_appendInput 58 = .ok (.iadd, 1) := by decide +kernel
theorem dX10_appendInput_59 : decode cX10_appendInput 59 = .ok (.putfield 196, 3) := by decide +kernel
theorem dX10_appendInput_62 : decode cX10_appendInput 62 = .ok (.aload_n 0, 1) := by decide +kernel
theorem dX10_appendInput_63 : decode cX10_appendInput 63 = .ok (.getfield 196, 3) := by decide +kernel
theorem dX10_appendInput_66 : decode cX10_appendInput 66 = .ok (.ireturn, 1) := by decide +kernel
theorem dX10_sign_0 : decode cX10_sign 0 = .ok (.aload_n 0, 1) := by decide +kernel
theorem dX10_sign_1 : decode cX10_sign 1 = .ok (.getfield 199, 3) := by decide +kernel
theorem dX10_sign_4 : decode cX10_sign 4 = .ok (.aload_n 0, 1) := by decide +kernel
theorem dX10_sign_5 : decode cX10_sign 5 = .ok (.getfield 196, 3) := by decide +kernel
theorem dX10_sign_8 : decode cX10_sign 8 = .ok (.if_icmp .ge 15, 3) := by decide +kernel
theorem dX10_sign_11 : decode cX10_sign 11 = .ok (.aload_n 0, 1) := by decide +kernel
theorem dX10_sign_12 : decode cX10_sign 12 = .ok (.getfield 17, 3) := by decide +kernel
theorem dX10_sign_15 : decode cX10_sign 15 = .ok (.aload_n 0, 1) := by decide +kernel
theorem dX10_sign_16 : decode cX10_sign 16 = .ok (.getfield 199, 3) := by decide +kernel
theorem dX10_sign_19 : decode cX10_sign 19 = .ok (.caload, 1) := by decide +kernel
theorem dX10_sign_20 : decode cX10_sign 20 = .ok (.goto 4, 3) := by decide +kernel
theorem dX10_sign_23 : decode cX10_sign 23 = .ok (.iconst (-1), 1) := by decide +kernel
theorem dX10_sign_24 : decode cX10_sign 24 = .ok (.ireturn, 1) := by decide +kernel
set_option maxRecDepth 20000 in
theorem ggX10_needs_X10_sign : GoodIn wsX10_needs wsX10_sign := goodIn_ca (goodIn_r _ [7, 2, 8, 9, 10, 11, 12, 13, 14, 15, 16, 17, 18, 19, 20, 21, 22, 23, 24, 25, 26, 27] (by decide +kernel) (by decide +kernel)) (goodIn_sub (fun _ h => List.mem_cons_of_mem _ (List.mem_append_right _ h)) (by decide +kernel))
set_option maxRecDepth 20000 in
theorem gX10_needs_X10_sign : GoodIn wsX10_needs (wsV RX10 205 RX10 yX10_sign wsX10_sign) := goodIn_app (goodIn_of _ (by decide +kernel)) ggX10_needs_X10_sign
theorem dX10_needs_0 : decode cX10_needs 0 = .ok (.aload_n 0, 1) := by decide +kernel
theorem dX10_needs_1 : decode cX10_needs 1 = .ok (.getfield 202, 3) := by decide +kernel
theorem dX10_needs_4 : decode cX10_needs 4 = .ok (.ifCond .lt 4, 3) := by decide +kernel
theorem dX10_needs_7 : decode cX10_needs 7 = .ok (.return_, 1) := by decide +kernel
theorem dX10_needs_8 : decode cX10_needs 8 = .ok (.aload_n 0, 1) := by decide +kernel
theorem dX10_needs_9 : decode cX10_needs 9 = .ok (.invokevirtual 205, 3) := by decide +kernel
theorem dX10_needs_12 : decode cX10_needs 12 = .ok (.iload_n 1, 1) := by decide +kernel
theorem dX10_needs_13 : decode cX10_needs 13 = .ok (.if_icmp .eq 12, 3) := by decide +kernel
theorem dX10_needs_16 : decode cX10_needs 16 = .ok (.aload_n 0, 1) := by decide +kernel
theorem dX10_needs_17 : decode cX10_needs 17 = .ok (.aload_n 0, 1) := by decide +kernel
theorem dX10_needs_18 : decode cX10_needs 18 = .ok (.getfield 199, 3) := by decide +kernel
theorem dX10_needs_21 : decode cX10_needs 21 = .ok (.putfield 202, 3) := by decide +kernel
theorem dX10_needs_24 : decode cX10_needs 24 = .ok (.return_, 1) := by decide +kernel
theorem dX10_needs_25 : decode cX10_needs 25 = .ok (.aload_n 0, 1) := by decide +kernel
theorem dX10_needs_26 : decode cX10_needs 26 = .ok (.dup, 1) := by decide +kernel
theorem dX10_needs_27 : decode cX10_needs 27 = .ok (.getfield 199, 3) := by decide +kernel
theorem dX10_needs_30 : decode cX10_needs 30 = .ok (.iconst 1, 1) := by decide +kernel
theorem dX10_needs_31 : decode cX10_needs 31 = .ok (.iadd, 1) := by decide +kernel
theorem dX10_needs_32 : decode cX10_needs 32 = .ok (.putfield 199, 3) := by decide +kernel
theorem dX10_needs_35 : decode cX10_needs 35 = .ok (.return_, 1) := by decide +kernel
set_option maxRecDepth 20000 in
theorem ggX10_number_X10_sign : GoodIn wsX10_number wsX10_sign := goodIn_ca (goodIn_r _ [7, 2, 8, 9, 13, 14, 15, 16, 17, 18, 19, 20, 21, 22, 23, 24, 25, 26, 27, 28, 29, 30] (by decide +kernel) (by decide +kernel)) (goodIn_sub (fun _ h => List.mem_cons_of_mem _ (List.mem_append_right _ h)) (by decide +kernel))
set_option maxRecDepth 20000 in
theorem gX10_number_X10_sign : GoodIn wsX10_number (wsV RX10 205 RX10 yX10_sign wsX10_sign) := goodIn_app (goodIn_of _ (by decide +kernel)) ggX10_number_X10_sign
set_option maxRecDepth 20000 in
theorem ggX10_number_X10_in : GoodIn wsX10_number wsX10_in := goodIn_r _ [12] (by decide +kernel) (by decide +kernel)
set_option maxRecDepth 20000 in
theorem gX10_number_X10_in : GoodIn wsX10_number (va_wsS RX10 60 yX10_in wsX10_in) := goodIn_app (goodIn_of _ (by decide +kernel)) ggX10_number_X10_in
theorem dX10_number_0 : decode cX10_number 0 = .ok (.aload_n 0, 1) := by decide +kernel
theorem dX10_number_1 : decode cX10_number 1 = .ok (.getfield 202, 3) := by decide +kernel
theorem dX10_number_4 : decode cX10_number 4 = .ok (.ifCond .lt 5, 3) := by decide +kernel
theorem dX10_number_7 : decode cX10_number 7 = .ok (.iconst 0, 1) := by decide +kernel
theorem dX10_number_8 : decode cX10_number 8 = .ok (.ireturn, 1) := by decide +kernel
theorem dX10_number_9 : decode cX10_number 9 = .ok (.aload_n 0, 1) := by decide +kernel
theorem dX10_number_10 : decode cX10_number 10 = .ok (.invokevirtual 205, 3) := by decide +kernel
theorem dX10_number_13 : decode cX10_number 13 = .ok (.bipush 48, 2) := by decide +kernel
theorem dX10_number_15 : decode cX10_number 15 = .ok (.bipush 57, 2) := by decide +kernel
theorem dX10_number_17 : decode cX10_number 17 = .ok (.invokestatic 60, 3) := by decide +kernel
theorem dX10_number_20 : decode cX10_number 20 = .ok (.ifCond .ne 13, 3) := by decide +kernel
theorem dX10_number_23 : decode cX10_number 23 = .ok (.aload_n 0, 1) := by decide +kernel
theorem dX10_number_24 : decode cX10_number 24 = .ok (.aload_n 0, 1) := by decide +kernel
theorem dX10_number_25 : decode cX10_number 25 = .ok (.getfield 199, 3) := by decide +kernel
theorem dX10_number_28 : decode cX10_number 28 = .ok (.putfield 202, 3) := by decide +kernel
theorem dX10_number_31 : decode cX10_number 31 = .ok (.iconst 0, 1) := by decide +kernel
theorem dX10_number_32 : decode cX10_number 32 = .ok (.ireturn, 1) := by decide +kernel
theorem dX10_number_33 : decode cX10_number 33 = .ok (.iconst 0, 1) := by decide +kernel
theorem dX10_number_34 : decode cX10_number 34 = .ok (.istore_n 2, 1) := by decide +kernel
theorem dX10_number_35 : decode cX10_number 35 = .ok (.iconst 0, 1) := by decide +kernel
theorem dX10_number_36 : decode cX10_number 36 = .ok (.istore_n 3, 1) := by decide +kernel
theorem dX10_number_37 : decode cX10_number 37 = .ok (.iload_n 3, 1) := by decide +kernel
theorem dX10_number_38 : decode cX10_number 38 = .ok (.iload_n 1, 1) := by decide +kernel
theorem dX10_number_39 : decode cX10_number 39 = .ok (.if_icmp .ge 46, 3) := by decide +kernel
theorem dX10_number_42 : decode cX10_number 42 = .ok (.aload_n 0, 1) := by decide +kernel
theorem dX10_number_43 : decode cX10_number 43 = .ok (.invokevirtual 205, 3) := by decide +kernel
theorem dX10_number_46 : decode cX10_number 46 = .ok (.bipush 48, 2) := by decide +kernel
theorem dX10_number_48 : decode cX10_number 48 = .ok (.bipush 57, 2) := by decide +kernel
theorem dX10_number_50 : decode cX10_number 50 = .ok (.invokestatic 60, 3) := by decide +kernel
theorem dX10_number_53 : decode cX10_number 53 = .ok (.ifCond .eq 32, 3) := by decide +kernel
theorem dX10_number_56 : decode cX10_number 56 = .ok (.bipush 10, 2) := by decide +kernel
theorem dX10_number_58 : decode cX10_number 58 = .ok (.iload_n 2, 1) := by decide +kernel
theorem dX10_number_59 : decode cX10_number 59 = .ok (.imul, 1) := by decide +kernel
theorem dX10_number_60 : decode cX10_number 60 = .ok (.aload_n 0, 1) := by decide +kernel
theorem dX10_number_61 : decode cX10_number 61 = .ok (.invokevirtual 205, 3) := by decide +kernel
theorem dX10_number_64 : decode cX10_number 64 = .ok (.iadd, 1) := by decide +kernel
theorem dX10_number_65 : decode cX10_number 65 = .ok (.bipush 48, 2) := by decide +kernel
theorem dX10_number_67 : decode cX10_number 67 = .ok (.isub, 1) := by decide +kernel
theorem dX10_number_68 : decode cX10_number 68 = .ok (.istore_n 2, 1) := by decide +kernel
theorem dX10_number_69 : decode cX10_number 69 = .ok (.aload_n 0, 1) := by decide +kernel
theorem dX10_number_70 : decode cX10_number 70 = .ok (.dup, 1) := by decide +kernel
theorem dX10_number_71 : decode cX10_number 71 = .ok (.getfield 199, 3) := by decide +kernel
theorem dX10_number_74 : decode cX10_number 74 = .ok (.iconst 1, 1) := by decide +kernel
theorem dX10_number_75 : decode cX10_number 75 = .ok (.iadd, 1) := by decide +kernel
theorem dX10_number_76 : decode cX10_number 76 = .ok (.putfield 199, 3) := by decide +kernel
theorem dX10_number_79 : decode cX10_number 79 = .ok (.iinc 3 1, 3) := by decide +kernel
theorem dX10_number_82 : decode cX10_number 82 = .ok (.goto (-45), 3) := by decide +kernel
theorem dX10_number_85 : decode cX10_number 85 = .ok (.iload_n 2, 1) := by decide +kernel
theorem dX10_number_86 : decode cX10_number 86 = .ok (.ireturn, 1) := by decide +kernel
set_option maxRecDepth 20000 in
theorem ggX10_behind_X10_needs : GoodIn wsX10_behind wsX10_needs := goodIn_ca (goodIn_r _ [5, 6, 7, 8, 9, 10, 4, 11, 12, 13, 21, 22, 23, 24, 25, 26, 27, 28, 29, 30, 31, 32, 33, 34, 35, 36, 37, 38] (by decide +kernel) (by decide +kernel)) (goodIn_sub (fun _ h => List.mem_cons_of_mem _ (List.mem_append_right _ h)) (by decide +kernel))
set_option maxRecDepth 20000 in
theorem gX10_behind_X10_needs : GoodIn wsX10_behind (wsV RX10 209 RX10 yX10_needs wsX10_needs) := goodIn_app (goodIn_of _ (by decide +kernel)) ggX10_behind_X10_needs
set_option maxRecDepth 20000 in
theorem ggX10_behind_X10_number : GoodIn wsX10_behind wsX10_number := goodIn_ca (goodIn_r _ [17, 6, 7, 8, 9, 10, 4, 11, 12, 13, 18, 19, 20, 21, 22, 23, 24, 25, 26, 27, 28, 29, 30, 31, 32, 33, 34, 35, 36, 37, 38] (by decide +kernel) (by decide +kernel)) (goodIn_sub (fun _ h => List.mem_cons_of_mem _ (List.mem_append_right _ h)) (by decide +kernel))
set_option maxRecDepth 20000 in
theorem gX10_behind_X10_number : GoodIn wsX10_behind (wsV RX10 212 RX10 yX10_number wsX10_number) := goodIn_app (goodIn_of _ (by decide +kernel)) ggX10_behind_X10_number
theorem dX10_behind_0 : decode cX10_behind 0 = .ok (.aload_n 0, 1) := by decide +kernel
theorem dX10_behind_1 : decode cX10_behind 1 = .ok (.iload_n 1, 1) := by decide +kernel
theorem dX10_behind_2 : decode cX10_behind 2 = .ok (.invokevirtual 209, 3) := by decide +kernel
theorem dX10_behind_5 : decode cX10_behind 5 = .ok (.aload_n 0, 1) := by decide +kernel
theorem dX10_behind_6 : decode cX10_behind 6 = .ok (.iconst 3, 1) := by decide +kernel
theorem dX10_behind_7 : decode cX10_behind 7 = .ok (.invokevirtual 212, 3) := by decide +kernel
theorem dX10_behind_10 : decode cX10_behind 10 = .ok (.ireturn, 1) := by decide +kernel
set_option maxRecDepth 20000 in
theorem ggX10_foot_X10_sign : GoodIn wsX10_foot wsX10_sign := goodIn_ca (goodIn_r _ [7, 2, 8, 9, 10, 11, 12, 13, 14, 15, 16, 17, 18, 19, 20, 21, 22, 23, 24, 25, 26, 27] (by decide +kernel) (by decide +kernel)) (goodIn_sub (fun _ h => List.mem_cons_of_mem _ (List.mem_append_right _ h)) (by decide +kernel))
set_option maxRecDepth 20000 in
theorem gX10_foot_X10_sign : GoodIn wsX10_foot (wsV RX10 205 RX10 yX10_sign wsX10_sign) := goodIn_app (goodIn_of _ (by decide +kernel)) ggX10_foot_X10_sign
theorem dX10_foot_0 : decode cX10_foot 0 = .ok (.aload_n 0, 1) := by decide +kernel
theorem dX10_foot_1 : decode cX10_foot 1 = .ok (.getfield 202, 3) := by decide +kernel
theorem dX10_foot_4 : decode cX10_foot 4 = .ok (.ifCond .lt 5, 3) := by decide +kernel
theorem dX10_foot_7 : decode cX10_foot 7 = .ok (.iconst 0, 1) := by decide +kernel
theorem dX10_foot_8 : decode cX10_foot 8 = .ok (.ireturn, 1) := by decide +kernel
theorem dX10_foot_9 : decode cX10_foot 9 = .ok (.aload_n 0, 1) := by decide +kernel
theorem dX10_foot_10 : decode cX10_foot 10 = .ok (.invokevirtual 205, 3) := by decide +kernel
theorem dX10_foot_13 : decode cX10_foot 13 = .ok (.istore_n 1, 1) := by decide +kernel
theorem dX10_foot_14 : decode cX10_foot 14 = .ok (.iload_n 1, 1) := by decide +kernel
theorem dX10_foot_15 : decode cX10_foot 15 = .ok (.bipush 76, 2) := by decide +kernel
theorem dX10_foot_17 : decode cX10_foot 17 = .ok (.if_icmp .eq 19, 3) := by decide +kernel
theorem dX10_foot_20 : decode cX10_foot 20 = .ok (.iload_n 1, 1) := by decide +kernel
theorem dX10_foot_21 : decode cX10_foot 21 = .ok (.bipush 82, 2) := by decide +kernel
theorem dX10_foot_23 : decode cX10_foot 23 = .ok (.if_icmp .eq 13, 3) := by decide +kernel
theorem dX10_foot_26 : decode cX10_foot 26 = .ok (.aload_n 0, 1) := by decide +kernel
theorem dX10_foot_27 : decode cX10_foot 27 = .ok (.aload_n 0, 1) := by decide +kernel
theorem dX10_foot_28 : decode cX10_foot 28 = .ok (.getfield 199, 3) := by decide +kernel
theorem dX10_foot_31 : decode cX10_foot 31 = .ok (.putfield 202, 3) := by decide +kernel
theorem dX10_foot_34 : decode cX10_foot 34 = .ok (.iconst 0, 1) := by decide +kernel
theorem dX10_foot_35 : decode cX10_foot 35 = .ok (.ireturn, 1) := by decide +kernel
theorem dX10_foot_36 : decode cX10_foot 36 = .ok (.aload_n 0, 1) := by decide +kernel
theorem dX10_foot_37 : decode cX10_foot 37 = .ok (.dup, 1) := by decide +kernel
theorem dX10_foot_38 : decode cX10_foot 38 = .ok (.getfield 199, 3) := by decide +kernel
theorem dX10_foot_41 : decode cX10_foot 41 = .ok (.iconst 1, 1) := by decide +kernel
theorem dX10_foot_42 : decode cX10_foot 42 = .ok (.iadd, 1) := by decide +kernel
theorem dX10_foot_43 : decode cX10_foot 43 = .ok (.putfield 199, 3) := by decide +kernel
theorem dX10_foot_46 : decode cX10_foot 46 = .ok (.iload_n 1, 1) := by decide +kernel
theorem dX10_foot_47 : decode cX10_foot 47 = .ok (.bipush 76, 2) := by decide +kernel
theorem dX10_foot_49 : decode cX10_foot 49 = .ok (.if_icmp .ne 7, 3) := by decide +kernel
theorem dX10_foot_52 : decode cX10_foot 52 = .ok (.iconst 1, 1) := by decide +kernel
theorem dX10_foot_53 : decode cX10_foot 53 = .ok (.goto 4, 3) := by decide +kernel
theorem dX10_foot_56 : decode cX10_foot 56 = .ok (.iconst 0, 1) := by decide +kernel
theorem dX10_foot_57 : decode cX10_foot 57 = .ok (.ireturn, 1) := by decide +kernel
set_option maxRecDepth 20000 in
theorem ggX10_command_X10_sign : GoodIn wsX10_command wsX10_sign := goodIn_ca (goodIn_r _ [9, 3, 10, 11, 31, 32, 33, 34, 35, 36, 37, 38, 39, 40, 41, 42, 43, 44, 45, 46, 47, 48] (by decide +kernel) (by decide +kernel)) (goodIn_sub (fun _ h => List.mem_cons_of_mem _ (List.mem_append_right _ h)) (by decide +kernel))
set_option maxRecDepth 20000 in
theorem gX10_command_X10_sign : GoodIn wsX10_command (wsV RX10 205 RX10 yX10_sign wsX10_sign) := goodIn_app (goodIn_of _ (by decide +kernel)) ggX10_command_X10_sign
set_option maxRecDepth 20000 in
theorem ggX10_command_X10_number : GoodIn wsX10_command wsX10_number := goodIn_ca (goodIn_r _ [15, 4, 3, 5, 6, 7, 8, 9, 10, 11, 16, 17, 18, 31, 32, 33, 34, 35, 36, 37, 38, 39, 40, 41, 42, 43, 44, 45, 46, 47, 48] (by decide +kernel) (by decide +kernel)) (goodIn_sub (fun _ h => List.mem_cons_of_mem _ (List.mem_append_right _ h)) (by decide +kernel))
set_option maxRecDepth 20000 in
theorem gX10_command_X10_number : GoodIn wsX10_command (wsV RX10 212 RX10 yX10_number wsX10_number) := goodIn_app (goodIn_of _ (by decide +kernel)) ggX10_command_X10_number
set_option maxRecDepth 20000 in
theorem ggX10_command_X10_behind : GoodIn wsX10_command wsX10_behind := goodIn_ca (goodIn_r _ [22, 23, 24, 25, 8, 26, 4, 3, 5, 6, 7, 9, 10, 11, 12, 13, 14, 15, 16, 17, 18, 31, 32, 33, 34, 35, 36, 37, 38, 39, 40, 41, 42, 43, 44, 45, 46, 47, 48] (by decide +kernel) (by decide +kernel)) (goodIn_sub (fun _ h => List.mem_cons_of_mem _ (List.mem_append_right _ h)) (by decide +kernel))
set_option maxRecDepth 20000 in
theorem gX10_command_X10_behind : GoodIn wsX10_command (wsV RX10 218 RX10 yX10_behind wsX10_behind) := goodIn_app (goodIn_of _ (by decide +kernel)) ggX10_command_X10_behind
set_option maxRecDepth 20000 in
theorem ggX10_command_X10_foot : GoodIn wsX10_command wsX10_foot := goodIn_ca (goodIn_r _ [30, 4, 3, 5, 6, 7, 8, 9, 10, 11, 31, 32, 33, 34, 35, 36, 37, 38, 39, 40, 41, 42, 43, 44, 45, 46, 47, 48] (by decide +kernel) (by decide +kernel)) (goodIn_sub (fun _ h => List.mem_cons_of_mem _ (List.mem_append_right _ h)) (by decide +kernel))
set_option maxRecDepth 20000 in
theorem gX10_command_X10_foot : GoodIn wsX10_command (wsV RX10 221 RX10 yX10_foot wsX10_foot) := goodIn_app (goodIn_of _ (by decide +kernel)) ggX10_command_X10_foot
theorem dX10_command_0 : decode cX10_command 0 = .ok (.bipush 7, 2) := by decide +kernel
theorem dX10_command_2 : decode cX10_command 2 = .ok (.aload_n 0, 1) := by decide +kernel
theorem dX10_command_3 : decode cX10_command 3 = .ok (.getfield 215, 3) := by decide +kernel
theorem dX10_command_6 : decode cX10_command 6 = .ok (.imul, 1) := by decide +kernel
theorem dX10_command_7 : decode cX10_command 7 = .ok (.istore_n 1, 1) := by decide +kernel
theorem dX10_command_8 : decode cX10_command 8 = .ok (.aload_n 0, 1) := by decide +kernel
theorem dX10_command_9 : decode cX10_command 9 = .ok (.dup, 1) := by decide +kernel
theorem dX10_command_10 : decode cX10_command 10 = .ok (.getfield 215, 3) := by decide +kernel
theorem dX10_command_13 : decode cX10_command 13 = .ok (.iconst 1, 1) := by decide +kernel
theorem dX10_command_14 : decode cX10_command 14 = .ok (.iadd, 1) := by decide +kernel
theorem dX10_command_15 : decode cX10_command 15 = .ok (.putfield 215, 3) := by decide +kernel
theorem dX10_command_18 : decode cX10_command 18 = .ok (.aload_n 0, 1) := by decide +kernel
theorem dX10_command_19 : decode cX10_command 19 = .ok (.invokevirtual 205, 3) := by decide +kernel
theorem dX10_command_22 : decode cX10_command 22 = .ok (.istore_n 2, 1) := by decide +kernel
theorem dX10_command_23 : decode cX10_command 23 = .ok (.iconst 0, 1) := by decide +kernel
theorem dX10_command_24 : decode cX10_command 24 = .ok (.istore_n 3, 1) := by decide +kernel
theorem dX10_command_25 : decode cX10_command 25 = .ok (.iload_n 3, 1) := by decide +kernel
theorem dX10_command_26 : decode cX10_command 26 = .ok (.bipush 7, 2) := by decide +kernel
theorem dX10_command_28 : decode cX10_command 28 = .ok (.if_icmp .ge 18, 3) := by decide +kernel
theorem dX10_command_31 : decode cX10_command 31 = .ok (.aload_n 0, 1) := by decide +kernel
theorem dX10_command_32 : decode cX10_command 32 = .ok (.getfield 24, 3) := by decide +kernel
theorem dX10_command_35 : decode cX10_command 35 = .ok (.iload_n 1, 1) := by decide +kernel
theorem dX10_command_36 : decode cX10_command 36 = .ok (.iload_n 3, 1) := by decide +kernel
theorem dX10_command_37 : decode cX10_command 37 = .ok (.iadd, 1) := by decide +kernel
theorem dX10_command_38 : decode cX10_command 38 = .ok (.iconst 0, 1) := by decide +kernel
theorem dX10_command_39 : decode cX10_command 39 = .ok (.iastore, 1) := by decide +kernel
theorem dX10_command_40 : decode cX10_command 40 = .ok (.iinc 3 1, 3) := by decide +kernel
theorem dX10_command_43 : decode cX10_command 43 = .ok (.goto (-18), 3) := by decide +kernel
theorem dX10_command_46 : decode cX10_command 46 = .ok (.iload_n 2, 1) := by decide +kernel
theorem dX10_command_47 : decode cX10_command 47 = .ok (.bipush 84, 2) := by decide +kernel
theorem dX10_command_49 : decode cX10_command 49 = .ok (.if_icmp .eq 54, 3) := by decide +kernel
theorem dX10_command_52 : decode cX10_command 52 = .ok (.iload_n 2, 1) := by decide +kernel
theorem dX10_command_53 : decode cX10_command 53 = .ok (.bipush 80, 2) := by decide +kernel
theorem dX10_command_55 : decode cX10_command 55 = .ok (.if_icmp .eq 48, 3) := by decide +kernel
theorem dX10_command_58 : decode cX10_command 58 = .ok (.iload_n 2, 1) := by decide +kernel
theorem dX10_command_59 : decode cX10_command 59 = .ok (.bipush 72, 2) := by decide +kernel
theorem dX10_command_61 : decode cX10_command 61 = .ok (.if_icmp .eq 42, 3) := by decide +kernel
theorem dX10_command_64 : decode cX10_command 64 = .ok (.iload_n 2, 1) := by decide +kernel
theorem dX10_command_65 : decode cX10_command 65 = .ok (.bipush 70, 2) := by decide +kernel
theorem dX10_command_67 : decode cX10_command 67 = .ok (.if_icmp .eq 36, 3) := by decide +kernel
theorem dX10_command_70 : decode cX10_command 70 = .ok (.iload_n 2, 1) := by decide +kernel
theorem dX10_command_71 : decode cX10_command 71 = .ok (.bipush 68, 2) := by decide +kernel
theorem dX10_command_73 : decode cX10_command 73 = .ok (.if_icmp .eq 30, 3) := by decide +kernel
theorem dX10_command_76 : decode cX10_command 76 = .ok (.iload_n 2, 1) := by decide +kernel
theorem dX10_command_77 : decode cX10_command 77 = .ok (.bipush 67, 2) := by decide +kernel
theorem dX10_command_79 : decode cX10_command 79 = .ok (.if_icmp .eq 24, 3) := by decide +kernel
theorem dX10_command_82 : decode cX10_command 82 = .ok (.iload_n 2, 1) := by decide +kernel
theorem dX10_command_83 : decode cX10_command 83 = .ok (.bipush 88, 2) := by decide +kernel
theorem dX10_command_85 : decode cX10_command 85 = .ok (.if_icmp .eq 18, 3) := by decide +kernel
theorem dX10_command_88 : decode cX10_command 88 = .ok (.iload_n 2, 1) := by decide +kernel
theorem dX10_command_89 : decode cX10_command 89 = .ok (.bipush 87, 2) := by decide +kernel
theorem dX10_command_91 : decode cX10_command 91 = .ok (.if_icmp .eq 12, 3) := by decide +kernel
theorem dX10_command_94 : decode cX10_command 94 = .ok (.aload_n 0, 1) := by decide +kernel
theorem dX10_command_95 : decode cX10_command 95 = .ok (.aload_n 0, 1) := by decide +kernel
theorem dX10_command_96 : decode cX10_command 96 = .ok (.getfield 199, 3) := by decide +kernel
theorem dX10_command_99 : decode cX10_command 99 = .ok (.putfield 202, 3) := by decide +kernel
theorem dX10_command_102 : decode cX10_command 102 = .ok (.return_, 1) := by decide +kernel
theorem dX10_command_103 : decode cX10_command 103 = .ok (.aload_n 0, 1) := by decide +kernel
theorem dX10_command_104 : decode cX10_command 104 = .ok (.dup, 1) := by decide +kernel
theorem dX10_command_105 : decode cX10_command 105 = .ok (.getfield 199, 3) := by decide +kernel
theorem dX10_command_108 : decode cX10_command 108 = .ok (.iconst 1, 1) := by decide +kernel
theorem dX10_command_109 : decode cX10_command 109 = .ok (.iadd, 1) := by decide +kernel
theorem dX10_command_110 : decode cX10_command 110 = .ok (.putfield 199, 3) := by decide +kernel
theorem dX10_command_113 : decode cX10_command 113 = .ok (.aload_n 0, 1) := by decide +kernel
theorem dX10_command_114 : decode cX10_command 114 = .ok (.getfield 24, 3) := by decide +kernel
theorem dX10_command_117 : decode cX10_command 117 = .ok (.iload_n 1, 1) := by decide +kernel
theorem dX10_command_118 : decode cX10_command 118 = .ok (.iload_n 2, 1) := by decide +kernel
theorem dX10_command_119 : decode cX10_command 119 = .ok (.iastore, 1) := by decide +kernel
theorem dX10_command_120 : decode cX10_command 120 = .ok (.aload_n 0, 1) := by decide +kernel
theorem dX10_command_121 : decode cX10_command 121 = .ok (.getfield 24, 3) := by decide +kernel
theorem dX10_command_124 : decode cX10_command 124 = .ok (.iload_n 1, 1) := by decide +kernel
theorem dX10_command_125 : decode cX10_command 125 = .ok (.iconst 1, 1) := by decide +kernel
theorem dX10_command_126 : decode cX10_command 126 = .ok (.iadd, 1) := by decide +kernel
theorem dX10_command_127 : decode cX10_command 127 = .ok (.aload_n 0, 1) := by decide +kernel
theorem dX10_command_128 : decode cX10_command 128 = .ok (.iload_n 2, 1) := by decide +kernel
theorem dX10_command_129 : decode cX10_command 129 = .ok (.bipush 84, 2) := by decide +kernel
theorem dX10_command_131 : decode cX10_command 131 = .ok (.if_icmp .eq 9, 3) := by decide +kernel
theorem dX10_command_134 : decode cX10_command 134 = .ok (.iload_n 2, 1) := by decide +kernel
theorem dX10_command_135 : decode cX10_command 135 = .ok (.bipush 87, 2) := by decide +kernel
theorem dX10_command_137 : decode cX10_command 137 = .ok (.if_icmp .ne 7, 3) := by decide +kernel
theorem dX10_command_140 : decode cX10_command 140 = .ok (.iconst 1, 1) := by decide +kernel
theorem dX10_command_141 : decode cX10_command 141 = .ok (.goto 4, 3) := by decide +kernel
theorem dX10_command_144 : decode cX10_command 144 = .ok (.iconst 3, 1) := by decide +kernel
theorem dX10_command_145 : decode cX10_command 145 = .ok (.invokevirtual 212, 3) := by decide +kernel
theorem dX10_command_148 : decode cX10_command 148 = .ok (.iastore, 1) := by decide +kernel
theorem dX10_command_149 : decode cX10_command 149 = .ok (.iload_n 2, 1) := by decide +kernel
theorem dX10_command_150 : decode cX10_command 150 = .ok (.lookupswitch 128 #[(72, 97), (80, 26)], 26) := by decide +kernel
theorem dX10_command_176 : decode cX10_command 176 = .ok (.aload_n 0, 1) := by decide +kernel
theorem dX10_command_177 : decode cX10_command 177 = .ok (.getfield 24, 3) := by decide +kernel
theorem dX10_command_180 : decode cX10_command 180 = .ok (.iload_n 1, 1) := by decide +kernel
theorem dX10_command_181 : decode cX10_command 181 = .ok (.iconst 2, 1) := by decide +kernel
theorem dX10_command_182 : decode cX10_command 182 = .ok (.iadd, 1) := by decide +kernel
theorem dX10_command_183 : decode cX10_command 183 = .ok (.aload_n 0, 1) := by decide +kernel
theorem dX10_command_184 : decode cX10_command 184 = .ok (.bipush 64, 2) := by decide +kernel
theorem dX10_command_186 : decode cX10_command 186 = .ok (.invokevirtual 218, 3) := by decide +kernel
theorem dX10_command_189 : decode cX10_command 189 = .ok (.iastore, 1) := by decide +kernel
theorem dX10_command_190 : decode cX10_command 190 = .ok (.aload_n 0, 1) := by decide +kernel
theorem dX10_command_191 : decode cX10_command 191 = .ok (.getfield 24, 3) := by decide +kernel
theorem dX10_command_194 : decode cX10_command 194 = .ok (.iload_n 1, 1) := by decide +kernel
theorem dX10_command_195 : decode cX10_command 195 = .ok (.iconst 3, 1) := by decide +kernel
theorem dX10_command_196 : decode cX10_command 196 = .ok (.iadd, 1) := by decide +kernel
theorem dX10_command_197 : decode cX10_command 197 = .ok (.aload_n 0, 1) := by decide +kernel
theorem dX10_command_198 : decode cX10_command 198 = .ok (.bipush 58, 2) := by decide +kernel
theorem dX10_command_200 : decode cX10_command 200 = .ok (.invokevirtual 218, 3) := by decide +kernel
theorem dX10_command_203 : decode cX10_command 203 = .ok (.iastore, 1) := by decide +kernel
theorem dX10_command_204 : decode cX10_command 204 = .ok (.aload_n 0, 1) := by decide +kernel
theorem dX10_command_205 : decode cX10_command 205 = .ok (.getfield 24, 3) := by decide +kernel
theorem dX10_command_208 : decode cX10_command 208 = .ok (.iload_n 1, 1) := by decide +kernel
theorem dX10_command_209 : decode cX10_command 209 = .ok (.iconst 4, 1) := by decide +kernel
theorem dX10_command_210 : decode cX10_command 210 = .ok (.iadd, 1) := by decide +kernel
theorem dX10_command_211 : decode cX10_command 211 = .ok (.aload_n 0, 1) := by decide +kernel
theorem dX10_command_212 : decode cX10_command 212 = .ok (.bipush 44, 2) := by decide +kernel
theorem dX10_command_214 : decode cX10_command 214 = .ok (.invokevirtual 218, 3) := by decide +kernel
theorem dX10_command_217 : decode cX10_command 217 = .ok (.iastore, 1) := by decide +kernel
theorem dX10_command_218 : decode cX10_command 218 = .ok (.aload_n 0, 1) := by decide +kernel
theorem dX10_command_219 : decode cX10_command 219 = .ok (.getfield 24, 3) := by decide +kernel
theorem dX10_command_222 : decode cX10_command 222 = .ok (.iload_n 1, 1) := by decide +kernel
theorem dX10_command_223 : decode cX10_command 223 = .ok (.iconst 5, 1) := by decide +kernel
theorem dX10_command_224 : decode cX10_command 224 = .ok (.iadd, 1) := by decide +kernel
theorem dX10_command_225 : decode cX10_command 225 = .ok (.aload_n 0, 1) := by decide +kernel
theorem dX10_command_226 : decode cX10_command 226 = .ok (.invokevirtual 221, 3) := by decide +kernel
theorem dX10_command_229 : decode cX10_command 229 = .ok (.iastore, 1) := by decide +kernel
theorem dX10_command_230 : decode cX10_command 230 = .ok (.aload_n 0, 1) := by decide +kernel
theorem dX10_command_231 : decode cX10_command 231 = .ok (.getfield 24, 3) := by decide +kernel
theorem dX10_command_234 : decode cX10_command 234 = .ok (.iload_n 1, 1) := by decide +kernel
theorem dX10_command_235 : decode cX10_command 235 = .ok (.bipush 6, 2) := by decide +kernel
theorem dX10_command_237 : decode cX10_command 237 = .ok (.iadd, 1) := by decide +kernel
theorem dX10_command_238 : decode cX10_command 238 = .ok (.aload_n 0, 1) := by decide +kernel
theorem dX10_command_239 : decode cX10_command 239 = .ok (.iconst 1, 1) := by decide +kernel
theorem dX10_command_240 : decode cX10_command 240 = .ok (.invokevirtual 212, 3) := by decide +kernel
theorem dX10_command_243 : decode cX10_command 243 = .ok (.iastore, 1) := by decide +kernel
theorem dX10_command_244 : decode cX10_command 244 = .ok (.goto 34, 3) := by decide +kernel
theorem dX10_command_247 : decode cX10_command 247 = .ok (.aload_n 0, 1) := by decide +kernel
theorem dX10_command_248 : decode cX10_command 248 = .ok (.getfield 24, 3) := by decide +kernel
theorem dX10_command_251 : decode cX10_command 251 = .ok (.iload_n 1, 1) := by decide +kernel
theorem dX10_command_252 : decode cX10_command 252 = .ok (.iconst 2, 1) := by decide +kernel
theorem dX10_command_253 : decode cX10_command 253 = .ok (.iadd, 1) := by decide +kernel
theorem dX10_command_254 : decode cX10_command 254 = .ok (.aload_n 0, 1) := by decide +kernel
theorem dX10_command_255 : decode cX10_command 255 = .ok (.bipush 58, 2) := by decide +kernel
theorem dX10_command_257 : decode cX10_command 257 = .ok (.invokevirtual 218, 3) := by decide +kernel
theorem dX10_command_260 : decode cX10_command 260 = .ok (.iastore, 1) := by decide +kernel
theorem dX10_command_261 : decode cX10_command 261 = .ok (.aload_n 0, 1) := by decide +kernel
theorem dX10_command_262 : decode cX10_command 262 = .ok (.getfield 24, 3) := by decide +kernel
theorem dX10_command_265 : decode cX10_command 265 = .ok (.iload_n 1, 1) := by decide +kernel
theorem dX10_command_266 : decode cX10_command 266 = .ok (.iconst 3, 1) := by decide +kernel
theorem dX10_command_267 : decode cX10_command 267 = .ok (.iadd, 1) := by decide +kernel
theorem dX10_command_268 : decode cX10_command 268 = .ok (.aload_n 0, 1) := by decide +kernel
theorem dX10_command_269 : decode cX10_command 269 = .ok (.bipush 44, 2) := by decide +kernel
theorem dX10_command_271 : decode cX10_command 271 = .ok (.invokevirtual 218, 3) := by decide +kernel
theorem dX10_command_274 : decode cX10_command 274 = .ok (.iastore, 1) := by decide +kernel
theorem dX10_command_275 : decode cX10_command 275 = .ok (.goto 3, 3) := by decide +kernel
theorem dX10_command_278 : decode cX10_command 278 = .ok (.return_, 1) := by decide +kernel
set_option maxRecDepth 20000 in
theorem ggX10_parse_X10_command : GoodIn wsX10_parse wsX10_command := goodIn_ca (goodIn_r _ [9, 3, 10, 1, 2, 11, 12, 13, 8, 14, 4, 15, 16, 17, 18, 19, 20, 21, 22, 23, 24, 25, 26, 27, 28, 29, 30, 31, 32, 33, 34, 35, 36, 37, 38, 39, 40, 41, 42, 43, 44, 45, 46, 47, 48, 49, 50, 51, 52] (by decide +kernel) (by decide +kernel)) (goodIn_sub (fun _ h => List.mem_cons_of_mem _ (List.mem_append_right _ h)) (by decide +kernel))
set_option maxRecDepth 20000 in
theorem gX10_parse_X10_command : GoodIn wsX10_parse (wsV RX10 224 RX10 yX10_command wsX10_command) := goodIn_app (goodIn_of _ (by decide +kernel)) ggX10_parse_X10_command
set_option maxRecDepth 20000 in
theorem ggX10_parse_X10_sign : GoodIn wsX10_parse wsX10_sign := goodIn_ca (goodIn_r _ [14, 1, 4, 15, 35, 36, 37, 38, 39, 40, 41, 42, 43, 44, 45, 46, 47, 48, 49, 50, 51, 52] (by decide +kernel) (by decide +kernel)) (goodIn_sub (fun _ h => List.mem_cons_of_mem _ (List.mem_append_right _ h)) (by decide +kernel))
set_option maxRecDepth 20000 in
theorem gX10_parse_X10_sign : GoodIn wsX10_parse (wsV RX10 205 RX10 yX10_sign wsX10_sign) := goodIn_app (goodIn_of _ (by decide +kernel)) ggX10_parse_X10_sign
theorem dX10_parse_0 : decode cX10_parse 0 = .ok (.aload_n 0, 1) := by decide +kernel
theorem dX10_parse_1 : decode cX10_parse 1 = .ok (.iconst 0, 1) := by decide +kernel
theorem dX10_parse_2 : decode cX10_parse 2 = .ok (.putfield 199, 3) := by decide +kernel
theorem dX10_parse_5 : decode cX10_parse 5 = .ok (.aload_n 0, 1) := by decide +kernel
theorem dX10_parse_6 : decode cX10_parse 6 = .ok (.iconst (-1), 1) := by decide +kernel
theorem dX10_parse_7 : decode cX10_parse 7 = .ok (.putfield 202, 3) := by decide +kernel
theorem dX10_parse_10 : decode cX10_parse 10 = .ok (.aload_n 0, 1) := by decide +kernel
theorem dX10_parse_11 : decode cX10_parse 11 = .ok (.iconst 0, 1) := by decide +kernel
theorem dX10_parse_12 : decode cX10_parse 12 = .ok (.putfield 215, 3) := by decide +kernel
theorem dX10_parse_15 : decode cX10_parse 15 = .ok (.aload_n 0, 1) := by decide +kernel
theorem dX10_parse_16 : decode cX10_parse 16 = .ok (.invokevirtual 224, 3) := by decide +kernel
theorem dX10_parse_19 : decode cX10_parse 19 = .ok (.aload_n 0, 1) := by decide +kernel
theorem dX10_parse_20 : decode cX10_parse 20 = .ok (.getfield 202, 3) := by decide +kernel
theorem dX10_parse_23 : decode cX10_parse 23 = .ok (.ifCond .ge 29, 3) := by decide +kernel
theorem dX10_parse_26 : decode cX10_parse 26 = .ok (.aload_n 0, 1) := by decide +kernel
theorem dX10_parse_27 : decode cX10_parse 27 = .ok (.invokevirtual 205, 3) := by decide +kernel
theorem dX10_parse_30 : decode cX10_parse 30 = .ok (.bipush 59, 2) := by decide +kernel
theorem dX10_parse_32 : decode cX10_parse 32 = .ok (.if_icmp .ne 20, 3) := by decide +kernel
theorem dX10_parse_35 : decode cX10_parse 35 = .ok (.aload_n 0, 1) := by decide +kernel
theorem dX10_parse_36 : decode cX10_parse 36 = .ok (.dup, 1) := by decide +kernel
theorem dX10_parse_37 : decode cX10_parse 37 = .ok (.getfield 199, 3) := by decide +kernel
theorem dX10_parse_40 : decode cX10_parse 40 = .ok (.iconst 1, 1) := by decide +kernel
theorem dX10_parse_41 : decode cX10_parse 41 = .ok (.iadd, 1) := by decide +kernel
theorem dX10_parse_42 : decode cX10_parse 42 = .ok (.putfield 199, 3) := by decide +kernel
theorem dX10_parse_45 : decode cX10_parse 45 = .ok (.aload_n 0, 1) := by decide +kernel
theorem dX10_parse_46 : decode cX10_parse 46 = .ok (.invokevirtual 224, 3) := by decide +kernel
theorem dX10_parse_49 : decode cX10_parse 49 = .ok (.goto (-30), 3) := by decide +kernel
theorem dX10_parse_52 : decode cX10_parse 52 = .ok (.aload_n 0, 1) := by decide +kernel
theorem dX10_parse_53 : decode cX10_parse 53 = .ok (.getfield 202, 3) := by decide +kernel
theorem dX10_parse_56 : decode cX10_parse 56 = .ok (.ifCond .ge 22, 3) := by decide +kernel
theorem dX10_parse_59 : decode cX10_parse 59 = .ok (.aload_n 0, 1) := by decide +kernel
theorem dX10_parse_60 : decode cX10_parse 60 = .ok (.getfield 199, 3) := by decide +kernel
theorem dX10_parse_63 : decode cX10_parse 63 = .ok (.aload_n 0, 1) := by decide +kernel
theorem dX10_parse_64 : decode cX10_parse 64 = .ok (.getfield 196, 3) := by decide +kernel
theorem dX10_parse_67 : decode cX10_parse 67 = .ok (.if_icmp .ge 11, 3) := by decide +kernel
theorem dX10_parse_70 : decode cX10_parse 70 = .ok (.aload_n 0, 1) := by decide +kernel
theorem dX10_parse_71 : decode cX10_parse 71 = .ok (.aload_n 0, 1) := by decide +kernel
theorem dX10_parse_72 : decode cX10_parse 72 = .ok (.getfield 199, 3) := by decide +kernel
theorem dX10_parse_75 : decode cX10_parse 75 = .ok (.putfield 202, 3) := by decide +kernel
theorem dX10_parse_78 : decode cX10_parse 78 = .ok (.return_, 1) := by decide +kernel
set_option maxRecDepth 20000 in
theorem ggX10_does_X10_addsTrack : GoodIn wsX10_does wsX10_addsTrack := goodIn_ca (goodIn_r _ [6, 7, 8, 9, 10, 5, 11, 12, 13, 14, 15, 16, 17, 18, 97, 98, 99, 100, 101, 102, 103, 104, 105, 106, 107, 108, 109, 110, 111, 112, 113, 114] (by decide +kernel) (by decide +kernel)) (goodIn_sub (fun _ h => List.mem_cons_of_mem _ (List.mem_append_right _ h)) (by decide +kernel))
set_option maxRecDepth 20000 in
theorem gX10_does_X10_addsTrack : GoodIn wsX10_does (wsV RX10 96 RX10 yX10_addsTrack wsX10_addsTrack) := goodIn_app (goodIn_of _ (by decide +kernel)) ggX10_does_X10_addsTrack
set_option maxRecDepth 20000 in
theorem ggX10_does_X10_addsPrint : GoodIn wsX10_does wsX10_addsPrint := goodIn_ca (goodIn_r _ [22, 7, 8, 23, 24, 25, 5, 26, 27, 28, 29, 9, 10, 11, 30, 31, 32, 33, 34, 35, 36, 37, 38, 39, 40, 41, 12, 13, 14, 15, 16, 17, 18, 42, 43, 44, 45, 46, 47, 48, 49, 50, 51, 52, 53, 97, 98, 99, 100, 101, 102, 103, 104, 105, 106, 107, 108, 109, 110, 111, 112, 113, 114] (by decide +kernel) (by decide +kernel)) (goodIn_sub (fun _ h => List.mem_cons_of_mem _ (List.mem_append_right _ h)) (by decide +kernel))
set_option maxRecDepth 20000 in
theorem gX10_does_X10_addsPrint : GoodIn wsX10_does (wsV RX10 132 RX10 yX10_addsPrint wsX10_addsPrint) := goodIn_app (goodIn_of _ (by decide +kernel)) ggX10_does_X10_addsPrint
set_option maxRecDepth 20000 in
theorem ggX10_does_X10_correctsHeel : GoodIn wsX10_does wsX10_correctsHeel := goodIn_ca (goodIn_r _ [57, 7, 8, 58, 59, 60, 5, 61, 34, 35, 36, 37, 27, 28, 29, 9, 10, 11, 62, 63, 64, 65, 66, 67, 68, 38, 39, 40, 41, 12, 13, 14, 15, 16, 17, 18, 42, 43, 44, 45, 50, 51, 52, 53, 97, 98, 99, 100, 101, 102, 103, 104, 105, 106, 107, 108, 109, 110, 111, 112, 113, 114] (by decide +kernel) (by decide +kernel)) (goodIn_sub (fun _ h => List.mem_cons_of_mem _ (List.mem_append_right _ h)) (by decide +kernel))
set_option maxRecDepth 20000 in
theorem gX10_does_X10_correctsHeel : GoodIn wsX10_does (wsV RX10 142 RX10 yX10_correctsHeel wsX10_correctsHeel) := goodIn_app (goodIn_of _ (by decide +kernel)) ggX10_does_X10_correctsHeel
set_option maxRecDepth 20000 in
theorem ggX10_does_X10_swapsFoot : GoodIn wsX10_does wsX10_swapsFoot := goodIn_ca (goodIn_r _ [72, 8, 58, 59, 60, 5, 61, 7, 34, 35, 36, 37, 50, 51, 52, 53, 97, 98, 99, 100, 101, 102, 103, 104, 105, 106, 107, 108, 109, 110, 111, 112, 113, 114] (by decide +kernel) (by decide +kernel)) (goodIn_sub (fun _ h => List.mem_cons_of_mem _ (List.mem_append_right _ h)) (by decide +kernel))
set_option maxRecDepth 20000 in
theorem gX10_does_X10_swapsFoot : GoodIn wsX10_does (wsV RX10 145 RX10 yX10_swapsFoot wsX10_swapsFoot) := goodIn_app (goodIn_of _ (by decide +kernel)) ggX10_does_X10_swapsFoot
set_option maxRecDepth 20000 in
theorem ggX10_does_X10_doubts : GoodIn wsX10_does wsX10_doubts := goodIn_ca (goodIn_r _ [76, 8, 58, 59, 60, 5, 61, 7, 34, 35, 36, 37, 12, 13, 14, 15, 16, 17, 18, 50, 51, 52, 53, 97, 98, 99, 100, 101, 102, 103, 104, 105, 106, 107, 108, 109, 110, 111, 112, 113, 114] (by decide +kernel) (by decide +kernel)) (goodIn_sub (fun _ h => List.mem_cons_of_mem _ (List.mem_append_right _ h)) (by decide +kernel))
set_option maxRecDepth 20000 in
theorem gX10_does_X10_doubts : GoodIn wsX10_does (wsV RX10 148 RX10 yX10_doubts wsX10_doubts) := goodIn_app (goodIn_of _ (by decide +kernel)) ggX10_does_X10_doubts
set_option maxRecDepth 20000 in
theorem ggX10_does_X10_confirms : GoodIn wsX10_does wsX10_confirms := goodIn_ca (goodIn_r _ [80, 8, 58, 59, 60, 5, 61, 7, 34, 35, 36, 37, 12, 13, 14, 15, 16, 17, 18, 50, 51, 52, 53, 97, 98, 99, 100, 101, 102, 103, 104, 105, 106, 107, 108, 109, 110, 111, 112, 113, 114] (by decide +kernel) (by decide +kernel)) (goodIn_sub (fun _ h => List.mem_cons_of_mem _ (List.mem_append_right _ h)) (by decide +kernel))
set_option maxRecDepth 20000 in
theorem gX10_does_X10_confirms : GoodIn wsX10_does (wsV RX10 151 RX10 yX10_confirms wsX10_confirms) := goodIn_app (goodIn_of _ (by decide +kernel)) ggX10_does_X10_confirms
set_option maxRecDepth 20000 in
theorem ggX10_does_X10_removesPrint : GoodIn wsX10_does wsX10_removesPrint := goodIn_ca (goodIn_r _ [84, 8, 58, 59, 60, 5, 61, 7, 34, 35, 36, 37, 85, 86, 87, 88, 50, 51, 52, 53, 97, 98, 99, 100, 101, 102, 103, 104, 105, 106, 107, 108, 109, 110, 111, 112, 113, 114] (by decide +kernel) (by decide +kernel)) (goodIn_sub (fun _ h => List.mem_cons_of_mem _ (List.mem_append_right _ h)) (by decide +kernel))
set_option maxRecDepth 20000 in
theorem gX10_does_X10_removesPrint : GoodIn wsX10_does (wsV RX10 139 RX10 yX10_removesPrint wsX10_removesPrint) := goodIn_app (goodIn_of _ (by decide +kernel)) ggX10_does_X10_removesPrint
set_option maxRecDepth 20000 in
theorem ggX10_does_X10_setsTide : GoodIn wsX10_does wsX10_setsTide := goodIn_ca (goodIn_r _ [92, 7, 8, 9, 10, 5, 11, 12, 13, 14, 15, 16, 17, 18, 93, 94, 95, 96, 34, 35, 36, 37, 85, 86, 87, 88, 50, 51, 52, 53, 97, 98, 99, 100, 101, 102, 103, 104, 105, 106, 107, 108, 109, 110, 111, 112, 113, 114] (by decide +kernel) (by decide +kernel)) (goodIn_sub (fun _ h => List.mem_cons_of_mem _ (List.mem_append_right _ h)) (by decide +kernel))
set_option maxRecDepth 20000 in
theorem gX10_does_X10_setsTide : GoodIn wsX10_does (wsV RX10 157 RX10 yX10_setsTide wsX10_setsTide) := goodIn_app (goodIn_of _ (by decide +kernel)) ggX10_does_X10_setsTide
theorem dX10_does_0 : decode cX10_does 0 = .ok (.aload_n 0, 1) := by decide +kernel
theorem dX10_does_1 : decode cX10_does 1 = .ok (.getfield 24, 3) := by decide +kernel
theorem dX10_does_4 : decode cX10_does 4 = .ok (.iload_n 1, 1) := by decide +kernel
theorem dX10_does_5 : decode cX10_does 5 = .ok (.iconst 1, 1) := by decide +kernel
theorem dX10_does_6 : decode cX10_does 6 = .ok (.iadd, 1) := by decide +kernel
theorem dX10_does_7 : decode cX10_does 7 = .ok (.iaload, 1) := by decide +kernel
theorem dX10_does_8 : decode cX10_does 8 = .ok (.istore_n 2, 1) := by decide +kernel
theorem dX10_does_9 : decode cX10_does 9 = .ok (.aload_n 0, 1) := by decide +kernel
theorem dX10_does_10 : decode cX10_does 10 = .ok (.getfield 24, 3) := by decide +kernel
theorem dX10_does_13 : decode cX10_does 13 = .ok (.iload_n 1, 1) := by decide +kernel
theorem dX10_does_14 : decode cX10_does 14 = .ok (.iconst 2, 1) := by decide +kernel
theorem dX10_does_15 : decode cX10_does 15 = .ok (.iadd, 1) := by decide +kernel
theorem dX10_does_16 : decode cX10_does 16 = .ok (.iaload, 1) := by decide +kernel
theorem dX10_does_17 : decode cX10_does 17 = .ok (.istore_n 3, 1) := by decide +kernel
theorem dX10_does_18 : decode cX10_does 18 = .ok (.aload_n 0, 1) := by decide +kernel
theorem dX10_does_19 : decode cX10_does 19 = .ok (.getfield 24, 3) := by decide +kernel
theorem dX10_does_22 : decode cX10_does 22 = .ok (.iload_n 1, 1) := by decide +kernel
theorem dX10_does_23 : decode cX10_does 23 = .ok (.iconst 3, 1) := by decide +kernel
theorem dX10_does_24 : decode cX10_does 24 = .ok (.iadd, 1) := by decide +kernel
theorem dX10_does_25 : decode cX10_does 25 = .ok (.iaload, 1) := by decide +kernel
theorem dX10_does_26 : decode cX10_does 26 = .ok (.istore 4, 2) := by decide +kernel
theorem dX10_does_28 : decode cX10_does 28 = .ok (.aload_n 0, 1) := by decide +kernel
theorem dX10_does_29 : decode cX10_does 29 = .ok (.getfield 24, 3) := by decide +kernel
theorem dX10_does_32 : decode cX10_does 32 = .ok (.iload_n 1, 1) := by decide +kernel
theorem dX10_does_33 : decode cX10_does 33 = .ok (.iaload, 1) := by decide +kernel
theorem dX10_does_34 : decode cX10_does 34 = .ok (.tableswitch 175 67 88 #[163, 157, 175, 151, 175, 142, 175, 175, 175, 175, 175, 175, 175, 108, 175, 175, 175, 102, 175, 175, 175, 169], 102) := by decide +kernel
theorem dX10_does_136 : decode cX10_does 136 = .ok (.aload_n 0, 1) := by decide +kernel
theorem dX10_does_137 : decode cX10_does 137 = .ok (.iload_n 2, 1) := by decide +kernel
theorem dX10_does_138 : decode cX10_does 138 = .ok (.invokevirtual 96, 3) := by decide +kernel
theorem dX10_does_141 : decode cX10_does 141 = .ok (.ireturn, 1) := by decide +kernel
theorem dX10_does_142 : decode cX10_does 142 = .ok (.aload_n 0, 1) := by decide +kernel
theorem dX10_does_143 : decode cX10_does 143 = .ok (.iload_n 2, 1) := by decide +kernel
theorem dX10_does_144 : decode cX10_does 144 = .ok (.iload_n 3, 1) := by decide +kernel
theorem dX10_does_145 : decode cX10_does 145 = .ok (.iload 4, 2) := by decide +kernel
theorem dX10_does_147 : decode cX10_does 147 = .ok (.aload_n 0, 1) := by decide +kernel
theorem dX10_does_148 : decode cX10_does 148 = .ok (.getfield 24, 3) := by decide +kernel
theorem dX10_does_151 : decode cX10_does 151 = .ok (.iload_n 1, 1) := by decide +kernel
theorem dX10_does_152 : decode cX10_does 152 = .ok (.iconst 4, 1) := by decide +kernel
theorem dX10_does_153 : decode cX10_does 153 = .ok (.iadd, 1) := by decide +kernel
theorem dX10_does_154 : decode cX10_does 154 = .ok (.iaload, 1) := by decide +kernel
theorem dX10_does_155 : decode cX10_does 155 = .ok (.aload_n 0, 1) := by decide +kernel
theorem dX10_does_156 : decode cX10_does 156 = .ok (.getfield 24, 3) := by decide +kernel
theorem dX10_does_159 : decode cX10_does 159 = .ok (.iload_n 1, 1) := by decide +kernel
theorem dX10_does_160 : decode cX10_does 160 = .ok (.iconst 5, 1) := by decide +kernel
theorem dX10_does_161 : decode cX10_does 161 = .ok (.iadd, 1) := by decide +kernel
theorem dX10_does_162 : decode cX10_does 162 = .ok (.iaload, 1) := by decide +kernel
theorem dX10_does_163 : decode cX10_does 163 = .ok (.aload_n 0, 1) := by decide +kernel
theorem dX10_does_164 : decode cX10_does 164 = .ok (.getfield 24, 3) := by decide +kernel
theorem dX10_does_167 : decode cX10_does 167 = .ok (.iload_n 1, 1) := by decide +kernel
theorem dX10_does_168 : decode cX10_does 168 = .ok (.bipush 6, 2) := by decide +kernel
theorem dX10_does_170 : decode cX10_does 170 = .ok (.iadd, 1) := by decide +kernel
theorem dX10_does_171 : decode cX10_does 171 = .ok (.iaload, 1) := by decide +kernel
theorem dX10_does_172 : decode cX10_does 172 = .ok (.invokevirtual 132, 3) := by decide +kernel
theorem dX10_does_175 : decode cX10_does 175 = .ok (.ireturn, 1) := by decide +kernel
theorem dX10_does_176 : decode cX10_does 176 = .ok (.aload_n 0, 1) := by decide +kernel
theorem dX10_does_177 : decode cX10_does 177 = .ok (.iload_n 2, 1) := by decide +kernel
theorem dX10_does_178 : decode cX10_does 178 = .ok (.iload_n 3, 1) := by decide +kernel
theorem dX10_does_179 : decode cX10_does 179 = .ok (.iload 4, 2) := by decide +kernel
theorem dX10_does_181 : decode cX10_does 181 = .ok (.invokevirtual 142, 3) := by decide +kernel
theorem dX10_does_184 : decode cX10_does 184 = .ok (.ireturn, 1) := by decide +kernel
theorem dX10_does_185 : decode cX10_does 185 = .ok (.aload_n 0, 1) := by decide +kernel
theorem dX10_does_186 : decode cX10_does 186 = .ok (.iload_n 2, 1) := by decide +kernel
theorem dX10_does_187 : decode cX10_does 187 = .ok (.invokevirtual 145, 3) := by decide +kernel
theorem dX10_does_190 : decode cX10_does 190 = .ok (.ireturn, 1) := by decide +kernel
theorem dX10_does_191 : decode cX10_does 191 = .ok (.aload_n 0, 1) := by decide +kernel
theorem dX10_does_192 : decode cX10_does 192 = .ok (.iload_n 2, 1) := by decide +kernel
theorem dX10_does_193 : decode cX10_does 193 = .ok (.invokevirtual 148, 3) := by decide +kernel
theorem dX10_does_196 : decode cX10_does 196 = .ok (.ireturn, 1) := by decide +kernel
theorem dX10_does_197 : decode cX10_does 197 = .ok (.aload_n 0, 1) := by decide +kernel
theorem dX10_does_198 : decode cX10_does 198 = .ok (.iload_n 2, 1) := by decide +kernel
theorem dX10_does_199 : decode cX10_does 199 = .ok (.invokevirtual 151, 3) := by decide +kernel
theorem dX10_does_202 : decode cX10_does 202 = .ok (.ireturn, 1) := by decide +kernel
theorem dX10_does_203 : decode cX10_does 203 = .ok (.aload_n 0, 1) := by decide +kernel
theorem dX10_does_204 : decode cX10_does 204 = .ok (.iload_n 2, 1) := by decide +kernel
theorem dX10_does_205 : decode cX10_does 205 = .ok (.invokevirtual 139, 3) := by decide +kernel
theorem dX10_does_208 : decode cX10_does 208 = .ok (.ireturn, 1) := by decide +kernel
theorem dX10_does_209 : decode cX10_does 209 = .ok (.aload_n 0, 1) := by decide +kernel
theorem dX10_does_210 : decode cX10_does 210 = .ok (.iload_n 2, 1) := by decide +kernel
theorem dX10_does_211 : decode cX10_does 211 = .ok (.invokevirtual 157, 3) := by decide +kernel
theorem dX10_does_214 : decode cX10_does 214 = .ok (.ireturn, 1) := by decide +kernel
set_option maxRecDepth 20000 in
theorem ggX10_execute_X10_parse : GoodIn wsX10_execute wsX10_parse := goodIn_ca (goodIn_r _ [15, 16, 2, 5, 1, 17, 18, 19, 14, 20, 21, 22, 23, 24, 25, 26, 27, 28, 29, 30, 31, 32, 33, 34, 35, 36, 37, 38, 39, 40, 41, 42, 43, 44, 45, 150, 151, 152, 153, 154, 155, 156, 157, 158, 159, 160, 161, 162, 163, 164, 165, 166, 167] (by decide +kernel) (by decide +kernel)) (goodIn_sub (fun _ h => List.mem_cons_of_mem _ (List.mem_append_right _ h)) (by decide +kernel))
set_option maxRecDepth 20000 in
theorem gX10_execute_X10_parse : GoodIn wsX10_execute (wsV RX10 227 RX10 yX10_parse wsX10_parse) := goodIn_app (goodIn_of _ (by decide +kernel)) ggX10_execute_X10_parse
set_option maxRecDepth 20000 in
theorem ggX10_execute_X10_begins : GoodIn wsX10_execute wsX10_begins := goodIn_ca (goodIn_r _ [49, 50, 51, 52, 14, 53, 54, 150, 151, 152, 153, 154, 155, 156, 157, 158, 159, 160, 161, 162, 163, 164, 165, 166, 167] (by decide +kernel) (by decide +kernel)) (goodIn_sub (fun _ h => List.mem_cons_of_mem _ (List.mem_append_right _ h)) (by decide +kernel))
set_option maxRecDepth 20000 in
theorem gX10_execute_X10_begins : GoodIn wsX10_execute (wsV RX10 93 RX10 yX10_begins wsX10_begins) := goodIn_app (goodIn_of _ (by decide +kernel)) ggX10_execute_X10_begins
set_option maxRecDepth 20000 in
theorem ggX10_execute_X10_does : GoodIn wsX10_execute wsX10_does := goodIn_ca (goodIn_r _ [58, 21, 59, 60, 61, 14, 62, 54, 10, 31, 32, 33, 63, 64, 65, 66, 6, 8, 7, 67, 68, 69, 70, 71, 72, 73, 74, 75, 76, 77, 78, 79, 80, 81, 82, 83, 84, 85, 86, 87, 88, 89, 90, 91, 92, 93, 94, 95, 96, 97, 98, 99, 100, 101, 102, 103, 104, 105, 106, 107, 108, 109, 110, 111, 112, 113, 114, 115, 116, 117, 118, 119, 120, 121, 122, 123, 124, 125, 126, 127, 128, 129, 130, 131, 132, 133, 134, 135, 136, 137, 138, 139, 140, 141, 142, 143, 144, 150, 151, 152, 153, 154, 155, 156, 157, 158, 159, 160, 161, 162, 163, 164, 165, 166, 167] (by decide +kernel) (by decide +kernel)) (goodIn_sub (fun _ h => List.mem_cons_of_mem _ (List.mem_append_right _ h)) (by decide +kernel))
set_option maxRecDepth 20000 in
theorem gX10_execute_X10_does : GoodIn wsX10_execute (wsV RX10 230 RX10 yX10_does wsX10_does) := goodIn_app (goodIn_of _ (by decide +kernel)) ggX10_execute_X10_does
set_option maxRecDepth 20000 in
theorem ggX10_execute_X10_ends : GoodIn wsX10_execute wsX10_ends := goodIn_ca (goodIn_r _ [148, 4, 149, 10, 50, 51, 52, 14, 53, 54, 150, 151, 152, 153, 154, 155, 156, 157, 158, 159, 160, 161, 162, 163, 164, 165, 166, 167] (by decide +kernel) (by decide +kernel)) (goodIn_sub (fun _ h => List.mem_cons_of_mem _ (List.mem_append_right _ h)) (by decide +kernel))
set_option maxRecDepth 20000 in
theorem gX10_execute_X10_ends : GoodIn wsX10_execute (wsV RX10 99 RX10 yX10_ends wsX10_ends) := goodIn_app (goodIn_of _ (by decide +kernel)) ggX10_execute_X10_ends
theorem dX10_execute_0 : decode cX10_execute 0 = .ok (.aload_n 0, 1) := by decide +kernel
theorem dX10_execute_1 : decode cX10_execute 1 = .ok (.invokevirtual 227, 3) := by decide +kernel
theorem dX10_execute_4 : decode cX10_execute 4 = .ok (.aload_n 0, 1) := by decide +kernel
theorem dX10_execute_5 : decode cX10_execute 5 = .ok (.iconst 0, 1) := by decide +kernel
theorem dX10_execute_6 : decode cX10_execute 6 = .ok (.putfield 196, 3) := by decide +kernel
theorem dX10_execute_9 : decode cX10_execute 9 = .ok (.aload_n 0, 1) := by decide +kernel
theorem dX10_execute_10 : decode cX10_execute 10 = .ok (.getfield 202, 3) := by decide +kernel
theorem dX10_execute_13 : decode cX10_execute 13 = .ok (.ifCond .lt 18, 3) := by decide +kernel
theorem dX10_execute_16 : decode cX10_execute 16 = .ok (.aload_n 0, 1) := by decide +kernel
theorem dX10_execute_17 : decode cX10_execute 17 = .ok (.aload_n 0, 1) := by decide +kernel
theorem dX10_execute_18 : decode cX10_execute 18 = .ok (.getfield 202, 3) := by decide +kernel
theorem dX10_execute_21 : decode cX10_execute 21 = .ok (.putfield 20, 3) := by decide +kernel
theorem dX10_execute_24 : decode cX10_execute 24 = .ok (.aload_n 0, 1) := by decide +kernel
theorem dX10_execute_25 : decode cX10_execute 25 = .ok (.iconst 1, 1) := by decide +kernel
theorem dX10_execute_26 : decode cX10_execute 26 = .ok (.putfield 27, 3) := by decide +kernel
theorem dX10_execute_29 : decode cX10_execute 29 = .ok (.iconst 0, 1) := by decide +kernel
theorem dX10_execute_30 : decode cX10_execute 30 = .ok (.ireturn, 1) := by decide +kernel
theorem dX10_execute_31 : decode cX10_execute 31 = .ok (.aload_n 0, 1) := by decide +kernel
theorem dX10_execute_32 : decode cX10_execute 32 = .ok (.invokevirtual 93, 3) := by decide +kernel
theorem dX10_execute_35 : decode cX10_execute 35 = .ok (.iconst 0, 1) := by decide +kernel
theorem dX10_execute_36 : decode cX10_execute 36 = .ok (.istore_n 1, 1) := by decide +kernel
theorem dX10_execute_37 : decode cX10_execute 37 = .ok (.iconst 0, 1) := by decide +kernel
theorem dX10_execute_38 : decode cX10_execute 38 = .ok (.istore_n 2, 1) := by decide +kernel
theorem dX10_execute_39 : decode cX10_execute 39 = .ok (.iload_n 2, 1) := by decide +kernel
theorem dX10_execute_40 : decode cX10_execute 40 = .ok (.aload_n 0, 1) := by decide +kernel
theorem dX10_execute_41 : decode cX10_execute 41 = .ok (.getfield 215, 3) := by decide +kernel
theorem dX10_execute_44 : decode cX10_execute 44 = .ok (.if_icmp .ge 22, 3) := by decide +kernel
theorem dX10_execute_47 : decode cX10_execute 47 = .ok (.iload_n 1, 1) := by decide +kernel
theorem dX10_execute_48 : decode cX10_execute 48 = .ok (.ifCond .ne 18, 3) := by decide +kernel
theorem dX10_execute_51 : decode cX10_execute 51 = .ok (.aload_n 0, 1) := by decide +kernel
theorem dX10_execute_52 : decode cX10_execute 52 = .ok (.bipush 7, 2) := by decide +kernel
theorem dX10_execute_54 : decode cX10_execute 54 = .ok (.iload_n 2, 1) := by decide +kernel
theorem dX10_execute_55 : decode cX10_execute 55 = .ok (.imul, 1) := by decide +kernel
theorem dX10_execute_56 : decode cX10_execute 56 = .ok (.invokevirtual 230, 3) := by decide +kernel
theorem dX10_execute_59 : decode cX10_execute 59 = .ok (.istore_n 1, 1) := by decide +kernel
theorem dX10_execute_60 : decode cX10_execute 60 = .ok (.iinc 2 1, 3) := by decide +kernel
theorem dX10_execute_63 : decode cX10_execute 63 = .ok (.goto (-24), 3) := by decide +kernel
theorem dX10_execute_66 : decode cX10_execute 66 = .ok (.iload_n 1, 1) := by decide +kernel
theorem dX10_execute_67 : decode cX10_execute 67 = .ok (.iconst 3, 1) := by decide +kernel
theorem dX10_execute_68 : decode cX10_execute 68 = .ok (.if_icmp .ne 32, 3) := by decide +kernel
theorem dX10_execute_71 : decode cX10_execute 71 = .ok (.aload_n 0, 1) := by decide +kernel
theorem dX10_execute_72 : decode cX10_execute 72 = .ok (.aload_n 0, 1) := by decide +kernel
theorem dX10_execute_73 : decode cX10_execute 73 = .ok (.getfield 40, 3) := by decide +kernel
theorem dX10_execute_76 : decode cX10_execute 76 = .ok (.putfield 46, 3) := by decide +kernel
theorem dX10_execute_79 : decode cX10_execute 79 = .ok (.aload_n 0, 1) := by decide +kernel
theorem dX10_execute_80 : decode cX10_execute 80 = .ok (.aload_n 0, 1) := by decide +kernel
theorem dX10_execute_81 : decode cX10_execute 81 = .ok (.getfield 43, 3) := by decide +kernel
theorem dX10_execute_84 : decode cX10_execute 84 = .ok (.putfield 53, 3) := by decide +kernel
theorem dX10_execute_87 : decode cX10_execute 87 = .ok (.aload_n 0, 1) := by decide +kernel
theorem dX10_execute_88 : decode cX10_execute 88 = .ok (.bipush 10, 2) := by decide +kernel
theorem dX10_execute_90 : decode cX10_execute 90 = .ok (.putfield 40, 3) := by decide +kernel
theorem dX10_execute_93 : decode cX10_execute 93 = .ok (.aload_n 0, 1) := by decide +kernel
theorem dX10_execute_94 : decode cX10_execute 94 = .ok (.iload_n 2, 1) := by decide +kernel
theorem dX10_execute_95 : decode cX10_execute 95 = .ok (.iconst 1, 1) := by decide +kernel
theorem dX10_execute_96 : decode cX10_execute 96 = .ok (.isub, 1) := by decide +kernel
theorem dX10_execute_97 : decode cX10_execute 97 = .ok (.putfield 43, 3) := by decide +kernel
theorem dX10_execute_100 : decode cX10_execute 100 = .ok (.aload_n 0, 1) := by decide +kernel
theorem dX10_execute_101 : decode cX10_execute 101 = .ok (.aload_n 0, 1) := by decide +kernel
theorem dX10_execute_102 : decode cX10_execute 102 = .ok (.getfield 215, 3) := by decide +kernel
theorem dX10_execute_105 : decode cX10_execute 105 = .ok (.putfield 37, 3) := by decide +kernel
theorem dX10_execute_108 : decode cX10_execute 108 = .ok (.aload_n 0, 1) := by decide +kernel
theorem dX10_execute_109 : decode cX10_execute 109 = .ok (.iload_n 1, 1) := by decide +kernel
theorem dX10_execute_110 : decode cX10_execute 110 = .ok (.iconst 2, 1) := by decide +kernel
theorem dX10_execute_111 : decode cX10_execute 111 = .ok (.iconst 2, 1) := by decide +kernel
theorem dX10_execute_112 : decode cX10_execute 112 = .ok (.iconst 3, 1) := by decide +kernel
theorem dX10_execute_113 : decode cX10_execute 113 = .ok (.invokevirtual 99, 3) := by decide +kernel
theorem dX10_execute_116 : decode cX10_execute 116 = .ok (.ireturn, 1) := by decide +kernel
set_option maxRecDepth 20000 in
theorem ggX10_syntaxErrorOffset_X10_isFine : GoodIn wsX10_syntaxErrorOffset wsX10_isFine := goodIn_r _ [6, 7, 8, 9, 10, 11, 12, 13, 14, 15, 16, 17, 18, 19, 20, 21, 22, 23, 24, 25] (by decide +kernel) (by decide +kernel)
set_option maxRecDepth 20000 in
theorem gX10_syntaxErrorOffset_X10_isFine : GoodIn wsX10_syntaxErrorOffset (wsV RX10 49 RX10 yX10_isFine wsX10_isFine) := goodIn_app (goodIn_of _ (by decide +kernel)) ggX10_syntaxErrorOffset_X10_isFine
theorem dX10_syntaxErrorOffset_0 : decode cX10_syntaxErrorOffset 0 = .ok (.aload_n 0, 1) := by decide +kernel
theorem dX10_syntaxErrorOffset_1 : decode cX10_syntaxErrorOffset 1 = .ok (.aload_n 0, 1) := by decide +kernel
theorem dX10_syntaxErrorOffset_2 : decode cX10_syntaxErrorOffset 2 = .ok (.getfield 20, 3) := by decide +kernel
theorem dX10_syntaxErrorOffset_5 : decode cX10_syntaxErrorOffset 5 = .ok (.iconst (-1), 1) := by decide +kernel
theorem dX10_syntaxErrorOffset_6 : decode cX10_syntaxErrorOffset 6 = .ok (.if_icmp .eq 7, 3) := by decide +kernel
theorem dX10_syntaxErrorOffset_9 : decode cX10_syntaxErrorOffset 9 = .ok (.iconst 1, 1) := by decide +kernel
theorem dX10_syntaxErrorOffset_10 : decode cX10_syntaxErrorOffset 10 = .ok (.goto 4, 3) := by decide +kernel
theorem dX10_syntaxErrorOffset_13 : decode cX10_syntaxErrorOffset 13 = .ok (.iconst 0, 1) := by decide +kernel
theorem dX10_syntaxErrorOffset_14 : decode cX10_syntaxErrorOffset 14 = .ok (.invokevirtual 49, 3) := by decide +kernel
theorem dX10_syntaxErrorOffset_17 : decode cX10_syntaxErrorOffset 17 = .ok (.ifCond .eq 10, 3) := by decide +kernel
theorem dX10_syntaxErrorOffset_20 : decode cX10_syntaxErrorOffset 20 = .ok (.aload_n 0, 1) := by decide +kernel
theorem dX10_syntaxErrorOffset_21 : decode cX10_syntaxErrorOffset 21 = .ok (.getfield 20, 3) := by decide +kernel
theorem dX10_syntaxErrorOffset_24 : decode cX10_syntaxErrorOffset 24 = .ok (.goto 4, 3) := by decide +kernel
theorem dX10_syntaxErrorOffset_27 : decode cX10_syntaxErrorOffset 27 = .ok (.iconst 0, 1) := by decide +kernel
theorem dX10_syntaxErrorOffset_28 : decode cX10_syntaxErrorOffset 28 = .ok (.ireturn, 1) := by decide +kernel
set_option maxRecDepth 20000 in
theorem ggX10_undo_X10_isFine : GoodIn wsX10_undo wsX10_isFine := goodIn_r _ [6, 7, 13, 14, 15, 16, 17, 18, 19, 20, 21, 22, 23, 24, 25, 26, 27, 28, 29, 30] (by decide +kernel) (by decide +kernel)
set_option maxRecDepth 20000 in
theorem gX10_undo_X10_isFine : GoodIn wsX10_undo (wsV RX10 49 RX10 yX10_isFine wsX10_isFine) := goodIn_app (goodIn_of _ (by decide +kernel)) ggX10_undo_X10_isFine
set_option maxRecDepth 20000 in
theorem ggX10_undo_X10_copies : GoodIn wsX10_undo wsX10_copies := goodIn_ca (goodIn_r _ [11, 12, 13, 14, 15, 16, 17, 18, 19, 20, 21, 22, 23, 24, 25, 26, 27, 28, 29, 30] (by decide +kernel) (by decide +kernel)) (goodIn_sub (fun _ h => List.mem_cons_of_mem _ (List.mem_append_right _ h)) (by decide +kernel))
set_option maxRecDepth 20000 in
theorem gX10_undo_X10_copies : GoodIn wsX10_undo (wsV RX10 30 RX10 yX10_copies wsX10_copies) := goodIn_app (goodIn_of _ (by decide +kernel)) ggX10_undo_X10_copies
theorem dX10_undo_0 : decode cX10_undo 0 = .ok (.aload_n 0, 1) := by decide +kernel
theorem dX10_undo_1 : decode cX10_undo 1 = .ok (.aload_n 0, 1) := by decide +kernel
theorem dX10_undo_2 : decode cX10_undo 2 = .ok (.getfield 34, 3) := by decide +kernel
theorem dX10_undo_5 : decode cX10_undo 5 = .ok (.ifCond .le 7, 3) := by decide +kernel
theorem dX10_undo_8 : decode cX10_undo 8 = .ok (.iconst 1, 1) := by decide +kernel
theorem dX10_undo_9 : decode cX10_undo 9 = .ok (.goto 4, 3) := by decide +kernel
theorem dX10_undo_12 : decode cX10_undo 12 = .ok (.iconst 0, 1) := by decide +kernel
theorem dX10_undo_13 : decode cX10_undo 13 = .ok (.invokevirtual 49, 3) := by decide +kernel
theorem dX10_undo_16 : decode cX10_undo 16 = .ok (.ifCond .ne 5, 3) := by decide +kernel
theorem dX10_undo_19 : decode cX10_undo 19 = .ok (.iconst 0, 1) := by decide +kernel
theorem dX10_undo_20 : decode cX10_undo 20 = .ok (.ireturn, 1) := by decide +kernel
theorem dX10_undo_21 : decode cX10_undo 21 = .ok (.aload_n 0, 1) := by decide +kernel
theorem dX10_undo_22 : decode cX10_undo 22 = .ok (.aload_n 0, 1) := by decide +kernel
theorem dX10_undo_23 : decode cX10_undo 23 = .ok (.getfield 34, 3) := by decide +kernel
theorem dX10_undo_26 : decode cX10_undo 26 = .ok (.iconst 0, 1) := by decide +kernel
theorem dX10_undo_27 : decode cX10_undo 27 = .ok (.invokevirtual 30, 3) := by decide +kernel
theorem dX10_undo_30 : decode cX10_undo 30 = .ok (.aload_n 0, 1) := by decide +kernel
theorem dX10_undo_31 : decode cX10_undo 31 = .ok (.dup, 1) := by decide +kernel
theorem dX10_undo_32 : decode cX10_undo 32 = .ok (.getfield 34, 3) := by decide +kernel
theorem dX10_undo_35 : decode cX10_undo 35 = .ok (.iconst 1, 1) := by decide +kernel
theorem dX10_undo_36 : decode cX10_undo 36 = .ok (.isub, 1) := by decide +kernel
theorem dX10_undo_37 : decode cX10_undo 37 = .ok (.putfield 34, 3) := by decide +kernel
theorem dX10_undo_40 : decode cX10_undo 40 = .ok (.aload_n 0, 1) := by decide +kernel
theorem dX10_undo_41 : decode cX10_undo 41 = .ok (.getfield 34, 3) := by decide +kernel
theorem dX10_undo_44 : decode cX10_undo 44 = .ok (.ireturn, 1) := by decide +kernel
theorem dX10_undoCount_0 : decode cX10_undoCount 0 = .ok (.aload_n 0, 1) := by decide +kernel
theorem dX10_undoCount_1 : decode cX10_undoCount 1 = .ok (.iconst 0, 1) := by decide +kernel
theorem dX10_undoCount_2 : decode cX10_undoCount 2 = .ok (.putfield 27, 3) := by decide +kernel
theorem dX10_undoCount_5 : decode cX10_undoCount 5 = .ok (.aload_n 0, 1) := by decide +kernel
theorem dX10_undoCount_6 : decode cX10_undoCount 6 = .ok (.getfield 34, 3) := by decide +kernel
theorem dX10_undoCount_9 : decode cX10_undoCount 9 = .ok (.ireturn, 1) := by decide +kernel
set_option maxRecDepth 20000 in
theorem ggX10_saveSnapshot_X10_copies : GoodIn wsX10_saveSnapshot wsX10_copies := goodIn_ca (goodIn_r _ [8, 3, 9, 10, 11, 12, 13, 14, 15, 16, 17, 18, 19, 20, 21, 22, 23, 24, 25, 26] (by decide +kernel) (by decide +kernel)) (goodIn_sub (fun _ h => List.mem_cons_of_mem _ (List.mem_append_right _ h)) (by decide +kernel))
set_option maxRecDepth 20000 in
theorem gX10_saveSnapshot_X10_copies : GoodIn wsX10_saveSnapshot (wsV RX10 30 RX10 yX10_copies wsX10_copies) := goodIn_app (goodIn_of _ (by decide +kernel)) ggX10_saveSnapshot_X10_copies
theorem dX10_saveSnapshot_0 : decode cX10_saveSnapshot 0 = .ok (.aload_n 0, 1) := by decide +kernel
theorem dX10_saveSnapshot_1 : decode cX10_saveSnapshot 1 = .ok (.iconst 0, 1) := by decide +kernel
theorem dX10_saveSnapshot_2 : decode cX10_saveSnapshot 2 = .ok (.putfield 27, 3) := by decide +kernel
theorem dX10_saveSnapshot_5 : decode cX10_saveSnapshot 5 = .ok (.aload_n 0, 1) := by decide +kernel
theorem dX10_saveSnapshot_6 : decode cX10_saveSnapshot 6 = .ok (.iconst 1, 1) := by decide +kernel
theorem dX10_saveSnapshot_7 : decode cX10_saveSnapshot 7 = .ok (.putfield 233, 3) := by decide +kernel
theorem dX10_saveSnapshot_10 : decode cX10_saveSnapshot 10 = .ok (.aload_n 0, 1) := by decide +kernel
theorem dX10_saveSnapshot_11 : decode cX10_saveSnapshot 11 = .ok (.iconst 0, 1) := by decide +kernel
theorem dX10_saveSnapshot_12 : decode cX10_saveSnapshot 12 = .ok (.bipush 9, 2) := by decide +kernel
theorem dX10_saveSnapshot_14 : decode cX10_saveSnapshot 14 = .ok (.invokevirtual 30, 3) := by decide +kernel
theorem dX10_saveSnapshot_17 : decode cX10_saveSnapshot 17 = .ok (.aload_n 0, 1) := by decide +kernel
theorem dX10_saveSnapshot_18 : decode cX10_saveSnapshot 18 = .ok (.getfield 9, 3) := by decide +kernel
theorem dX10_saveSnapshot_21 : decode cX10_saveSnapshot 21 = .ok (.iconst 1, 1) := by decide +kernel
theorem dX10_saveSnapshot_22 : decode cX10_saveSnapshot 22 = .ok (.iaload, 1) := by decide +kernel
theorem dX10_saveSnapshot_23 : decode cX10_saveSnapshot 23 = .ok (.ireturn, 1) := by decide +kernel
set_option maxRecDepth 20000 in
theorem ggX10_restoreSnapshot_X10_isFine : GoodIn wsX10_restoreSnapshot wsX10_isFine := goodIn_r _ [8, 9, 14, 15, 16, 17, 18, 19, 20, 21, 22, 23, 24, 25, 26, 27, 28, 29, 30, 31] (by decide +kernel) (by decide +kernel)
set_option maxRecDepth 20000 in
theorem gX10_restoreSnapshot_X10_isFine : GoodIn wsX10_restoreSnapshot (wsV RX10 49 RX10 yX10_isFine wsX10_isFine) := goodIn_app (goodIn_of _ (by decide +kernel)) ggX10_restoreSnapshot_X10_isFine
set_option maxRecDepth 20000 in
theorem ggX10_restoreSnapshot_X10_copies : GoodIn wsX10_restoreSnapshot wsX10_copies := goodIn_ca (goodIn_r _ [13, 3, 14, 15, 16, 17, 18, 19, 20, 21, 22, 23, 24, 25, 26, 27, 28, 29, 30, 31] (by decide +kernel) (by decide +kernel)) (goodIn_sub (fun _ h => List.mem_cons_of_mem _ (List.mem_append_right _ h)) (by decide +kernel))
set_option maxRecDepth 20000 in
theorem gX10_restoreSnapshot_X10_copies : GoodIn wsX10_restoreSnapshot (wsV RX10 30 RX10 yX10_copies wsX10_copies) := goodIn_app (goodIn_of _ (by decide +kernel)) ggX10_restoreSnapshot_X10_copies
theorem dX10_restoreSnapshot_0 : decode cX10_restoreSnapshot 0 = .ok (.aload_n 0, 1) := by decide +kernel
theorem dX10_restoreSnapshot_1 : decode cX10_restoreSnapshot 1 = .ok (.aload_n 0, 1) := by decide +kernel
theorem dX10_restoreSnapshot_2 : decode cX10_restoreSnapshot 2 = .ok (.getfield 233, 3) := by decide +kernel
theorem dX10_restoreSnapshot_5 : decode cX10_restoreSnapshot 5 = .ok (.invokevirtual 49, 3) := by decide +kernel
theorem dX10_restoreSnapshot_8 : decode cX10_restoreSnapshot 8 = .ok (.ifCond .ne 5, 3) := by decide +kernel
theorem dX10_restoreSnapshot_11 : decode cX10_restoreSnapshot 11 = .ok (.iconst 0, 1) := by decide +kernel
theorem dX10_restoreSnapshot_12 : decode cX10_restoreSnapshot 12 = .ok (.ireturn, 1) := by decide +kernel
theorem dX10_restoreSnapshot_13 : decode cX10_restoreSnapshot 13 = .ok (.aload_n 0, 1) := by decide +kernel
theorem dX10_restoreSnapshot_14 : decode cX10_restoreSnapshot 14 = .ok (.bipush 9, 2) := by decide +kernel
theorem dX10_restoreSnapshot_16 : decode cX10_restoreSnapshot 16 = .ok (.iconst 0, 1) := by decide +kernel
theorem dX10_restoreSnapshot_17 : decode cX10_restoreSnapshot 17 = .ok (.invokevirtual 30, 3) := by decide +kernel
theorem dX10_restoreSnapshot_20 : decode cX10_restoreSnapshot 20 = .ok (.aload_n 0, 1) := by decide +kernel
theorem dX10_restoreSnapshot_21 : decode cX10_restoreSnapshot 21 = .ok (.iconst 0, 1) := by decide +kernel
theorem dX10_restoreSnapshot_22 : decode cX10_restoreSnapshot 22 = .ok (.putfield 34, 3) := by decide +kernel
theorem dX10_restoreSnapshot_25 : decode cX10_restoreSnapshot 25 = .ok (.aload_n 0, 1) := by decide +kernel
theorem dX10_restoreSnapshot_26 : decode cX10_restoreSnapshot 26 = .ok (.getfield 9, 3) := by decide +kernel
theorem dX10_restoreSnapshot_29 : decode cX10_restoreSnapshot 29 = .ok (.iconst 1, 1) := by decide +kernel
theorem dX10_restoreSnapshot_30 : decode cX10_restoreSnapshot 30 = .ok (.iaload, 1) := by decide +kernel
theorem dX10_restoreSnapshot_31 : decode cX10_restoreSnapshot 31 = .ok (.ireturn, 1) := by decide +kernel
