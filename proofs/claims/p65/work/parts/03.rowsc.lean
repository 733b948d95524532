theorem dX9_averageStride_0 : decode cX9_averageStride 0 = .ok (.aload_n 0, 1) := by decide +kernel
theorem dX9_averageStride_1 : decode cX9_averageStride 1 = .ok (.iload_n 1, 1) := by decide +kernel
theorem dX9_averageStride_2 : decode cX9_averageStride 2 = .ok (.invokevirtual 92, 3) := by decide +kernel
theorem dX9_averageStride_5 : decode cX9_averageStride 5 = .ok (.astore_n 2, 1) := by decide +kernel
theorem dX9_averageStride_6 : decode cX9_averageStride 6 = .ok (.aload_n 0, 1) := by decide +kernel
theorem dX9_averageStride_7 : decode cX9_averageStride 7 = .ok (.getfield 12, 3) := by decide +kernel
theorem dX9_averageStride_10 : decode cX9_averageStride 10 = .ok (.aload_n 2, 1) := by decide +kernel
theorem dX9_averageStride_11 : decode cX9_averageStride 11 = .ok (.invokevirtual 223, 3) := by decide +kernel
theorem dX9_averageStride_14 : decode cX9_averageStride 14 = .ok (.iconst 1, 1) := by decide +kernel
theorem dX9_averageStride_15 : decode cX9_averageStride 15 = .ok (.isub, 1) := by decide +kernel
theorem dX9_averageStride_16 : decode cX9_averageStride 16 = .ok (.istore_n 3, 1) := by decide +kernel
theorem dX9_averageStride_17 : decode cX9_averageStride 17 = .ok (.iload_n 3, 1) := by decide +kernel
theorem dX9_averageStride_18 : decode cX9_averageStride 18 = .ok (.iconst 1, 1) := by decide +kernel
theorem dX9_averageStride_19 : decode cX9_averageStride 19 = .ok (.if_icmp .ge 13, 3) := by decide +kernel
theorem dX9_averageStride_22 : decode cX9_averageStride 22 = .ok (.new 243, 3) := by decide +kernel
theorem dX9_averageStride_25 : decode cX9_averageStride 25 = .ok (.dup, 1) := by decide +kernel
theorem dX9_averageStride_26 : decode cX9_averageStride 26 = .ok (.ldc 245, 2) := by decide +kernel
theorem dX9_averageStride_28 : decode cX9_averageStride 28 = .ok (.invokespecial 247, 3) := by decide +kernel
theorem dX9_averageStride_31 : decode cX9_averageStride 31 = .ok (.athrow, 1) := by decide +kernel
theorem dX9_averageStride_32 : decode cX9_averageStride 32 = .ok (.aload_n 0, 1) := by decide +kernel
theorem dX9_averageStride_33 : decode cX9_averageStride 33 = .ok (.getfield 21, 3) := by decide +kernel
theorem dX9_averageStride_36 : decode cX9_averageStride 36 = .ok (.aload_n 2, 1) := by decide +kernel
theorem dX9_averageStride_37 : decode cX9_averageStride 37 = .ok (.invokevirtual 230, 3) := by decide +kernel
theorem dX9_averageStride_40 : decode cX9_averageStride 40 = .ok (.i2d, 1) := by decide +kernel
theorem dX9_averageStride_41 : decode cX9_averageStride 41 = .ok (.iload_n 3, 1) := by decide +kernel
theorem dX9_averageStride_42 : decode cX9_averageStride 42 = .ok (.i2d, 1) := by decide +kernel
theorem dX9_averageStride_43 : decode cX9_averageStride 43 = .ok (.ddiv, 1) := by decide +kernel
theorem dX9_averageStride_44 : decode cX9_averageStride 44 = .ok (.dreturn, 1) := by decide +kernel
set_option maxRecDepth 20000 in
theorem ggX9_errorsIfMoved_X9_requirePrint : GoodIn wsX9_errorsIfMoved wsX9_requirePrint := goodIn_ca (goodIn_r _ [6, 7, 8, 9, 10, 11, 12, 13, 14, 15, 16, 17, 88, 89, 90, 91, 92, 93, 94, 95, 96, 97, 98, 99, 100, 101, 102, 103, 104, 105, 106, 107, 108, 109, 110, 111, 112, 113, 114] (by decide +kernel) (by decide +kernel)) (goodIn_sub (fun _ h => List.mem_cons_of_mem _ (List.mem_append_right _ h)) (by decide +kernel))
set_option maxRecDepth 20000 in
theorem gX9_errorsIfMoved_X9_requirePrint : GoodIn wsX9_errorsIfMoved (wsV RX9 120 RX9 yX9_requirePrint wsX9_requirePrint) := goodIn_app (goodIn_of _ (by decide +kernel)) ggX9_errorsIfMoved_X9_requirePrint
set_option maxRecDepth 20000 in
theorem ggX9_errorsIfMoved_X9_requireCell : GoodIn wsX9_errorsIfMoved wsX9_requireCell := goodIn_ca (goodIn_r _ [20, 7, 8, 21, 22, 5, 23, 24, 25, 26] (by decide +kernel) (by decide +kernel)) (goodIn_sub (fun _ h => List.mem_cons_of_mem _ (List.mem_append_right _ h)) (by decide +kernel))
set_option maxRecDepth 20000 in
theorem gX9_errorsIfMoved_X9_requireCell : GoodIn wsX9_errorsIfMoved (va_wsS RX9 100 yX9_requireCell wsX9_requireCell) := goodIn_app (goodIn_of _ (by decide +kernel)) ggX9_errorsIfMoved_X9_requireCell
set_option maxRecDepth 20000 in
theorem ggX9_errorsIfMoved_X4_errorsWith : GoodIn wsX9_errorsIfMoved wsX4_errorsWith := goodIn_r _ [31, 32, 33, 34, 35, 36, 37, 30, 38, 39, 40, 41, 42, 43, 44, 45, 46, 47, 48, 49, 50, 13, 51, 15, 52, 53, 54, 55, 56, 57, 58, 59, 60, 61, 62, 63, 64, 65, 66, 67, 68, 69, 70, 71, 72, 73, 74, 75, 76, 77, 78, 79, 80, 81, 82, 83, 84, 85, 86, 87, 105, 106, 107, 108, 109, 110, 111, 112, 113, 114, 115, 98, 99, 100, 101, 102, 103, 104, 116, 117, 118] (by decide +kernel) (by decide +kernel)
set_option maxRecDepth 20000 in
theorem gX9_errorsIfMoved_X4_errorsWith : GoodIn wsX9_errorsIfMoved (wsV RX9 248 RX4 yX4_errorsWith wsX4_errorsWith) := goodIn_app (goodIn_of _ (by decide +kernel)) ggX9_errorsIfMoved_X4_errorsWith
theorem dX9_errorsIfMoved_0 : decode cX9_errorsIfMoved 0 = .ok (.aload_n 0, 1) := by decide +kernel
theorem dX9_errorsIfMoved_1 : decode cX9_errorsIfMoved 1 = .ok (.iload_n 1, 1) := by decide +kernel
theorem dX9_errorsIfMoved_2 : decode cX9_errorsIfMoved 2 = .ok (.invokevirtual 120, 3) := by decide +kernel
theorem dX9_errorsIfMoved_5 : decode cX9_errorsIfMoved 5 = .ok (.astore 4, 2) := by decide +kernel
theorem dX9_errorsIfMoved_7 : decode cX9_errorsIfMoved 7 = .ok (.iload_n 2, 1) := by decide +kernel
theorem dX9_errorsIfMoved_8 : decode cX9_errorsIfMoved 8 = .ok (.iload_n 3, 1) := by decide +kernel
theorem dX9_errorsIfMoved_9 : decode cX9_errorsIfMoved 9 = .ok (.invokestatic 100, 3) := by decide +kernel
theorem dX9_errorsIfMoved_12 : decode cX9_errorsIfMoved 12 = .ok (.aload_n 0, 1) := by decide +kernel
theorem dX9_errorsIfMoved_13 : decode cX9_errorsIfMoved 13 = .ok (.getfield 21, 3) := by decide +kernel
theorem dX9_errorsIfMoved_16 : decode cX9_errorsIfMoved 16 = .ok (.aload 4, 2) := by decide +kernel
theorem dX9_errorsIfMoved_18 : decode cX9_errorsIfMoved 18 = .ok (.iload_n 2, 1) := by decide +kernel
theorem dX9_errorsIfMoved_19 : decode cX9_errorsIfMoved 19 = .ok (.iload_n 3, 1) := by decide +kernel
theorem dX9_errorsIfMoved_20 : decode cX9_errorsIfMoved 20 = .ok (.invokevirtual 248, 3) := by decide +kernel
theorem dX9_errorsIfMoved_23 : decode cX9_errorsIfMoved 23 = .ok (.ireturn, 1) := by decide +kernel
set_option maxRecDepth 20000 in
theorem ggX9_canMove_X9_requirePrint : GoodIn wsX9_canMove wsX9_requirePrint := goodIn_ca (goodIn_r _ [6, 7, 8, 1, 9, 10, 11, 12, 13, 14, 15, 16, 68, 69, 70, 71, 72, 73, 74, 75, 76, 77, 78, 79, 80, 81, 82, 83, 84, 85, 86, 87, 88, 89, 90, 91, 92, 93, 94] (by decide +kernel) (by decide +kernel)) (goodIn_sub (fun _ h => List.mem_cons_of_mem _ (List.mem_append_right _ h)) (by decide +kernel))
set_option maxRecDepth 20000 in
theorem gX9_canMove_X9_requirePrint : GoodIn wsX9_canMove (wsV RX9 120 RX9 yX9_requirePrint wsX9_requirePrint) := goodIn_app (goodIn_of _ (by decide +kernel)) ggX9_canMove_X9_requirePrint
set_option maxRecDepth 20000 in
theorem ggX9_canMove_X9_requireCell : GoodIn wsX9_canMove wsX9_requireCell := goodIn_ca (goodIn_r _ [19, 7, 8, 20, 21, 5, 22, 23, 24, 25] (by decide +kernel) (by decide +kernel)) (goodIn_sub (fun _ h => List.mem_cons_of_mem _ (List.mem_append_right _ h)) (by decide +kernel))
set_option maxRecDepth 20000 in
theorem gX9_canMove_X9_requireCell : GoodIn wsX9_canMove (va_wsS RX9 100 yX9_requireCell wsX9_requireCell) := goodIn_app (goodIn_of _ (by decide +kernel)) ggX9_canMove_X9_requireCell
set_option maxRecDepth 20000 in
theorem ggX9_canMove_X0_objectionToMove : GoodIn wsX9_canMove wsX0_objectionToMove := goodIn_r _ [29, 30, 31, 32, 33, 34, 35, 36, 37, 38, 39, 40, 41, 42, 43, 44, 45, 46, 47, 48, 49, 50, 51, 52, 53, 54, 55, 12, 56, 57, 16, 58, 59, 60, 61, 62, 63, 64, 65, 14, 15, 66, 67, 95, 96, 97, 85, 86, 87, 88, 89, 90, 91, 92, 93, 94, 78, 79, 80, 81, 82, 83, 84] (by decide +kernel) (by decide +kernel)
set_option maxRecDepth 20000 in
theorem gX9_canMove_X0_objectionToMove : GoodIn wsX9_canMove (wsV RX9 133 RX0 yX0_objectionToMove wsX0_objectionToMove) := goodIn_app (goodIn_of _ (by decide +kernel)) ggX9_canMove_X0_objectionToMove
theorem dX9_canMove_0 : decode cX9_canMove 0 = .ok (.aload_n 0, 1) := by decide +kernel
theorem dX9_canMove_1 : decode cX9_canMove 1 = .ok (.iload_n 1, 1) := by decide +kernel
theorem dX9_canMove_2 : decode cX9_canMove 2 = .ok (.invokevirtual 120, 3) := by decide +kernel
theorem dX9_canMove_5 : decode cX9_canMove 5 = .ok (.astore 4, 2) := by decide +kernel
theorem dX9_canMove_7 : decode cX9_canMove 7 = .ok (.iload_n 2, 1) := by decide +kernel
theorem dX9_canMove_8 : decode cX9_canMove 8 = .ok (.iload_n 3, 1) := by decide +kernel
theorem dX9_canMove_9 : decode cX9_canMove 9 = .ok (.invokestatic 100, 3) := by decide +kernel
theorem dX9_canMove_12 : decode cX9_canMove 12 = .ok (.aload_n 0, 1) := by decide +kernel
theorem dX9_canMove_13 : decode cX9_canMove 13 = .ok (.getfield 12, 3) := by decide +kernel
theorem dX9_canMove_16 : decode cX9_canMove 16 = .ok (.aload 4, 2) := by decide +kernel
theorem dX9_canMove_18 : decode cX9_canMove 18 = .ok (.iload_n 2, 1) := by decide +kernel
theorem dX9_canMove_19 : decode cX9_canMove 19 = .ok (.iload_n 3, 1) := by decide +kernel
theorem dX9_canMove_20 : decode cX9_canMove 20 = .ok (.invokevirtual 133, 3) := by decide +kernel
theorem dX9_canMove_23 : decode cX9_canMove 23 = .ok (.ifnonnull 7, 3) := by decide +kernel
theorem dX9_canMove_26 : decode cX9_canMove 26 = .ok (.iconst 1, 1) := by decide +kernel
theorem dX9_canMove_27 : decode cX9_canMove 27 = .ok (.goto 4, 3) := by decide +kernel
theorem dX9_canMove_30 : decode cX9_canMove 30 = .ok (.iconst 0, 1) := by decide +kernel
theorem dX9_canMove_31 : decode cX9_canMove 31 = .ok (.ireturn, 1) := by decide +kernel
set_option maxRecDepth 20000 in
theorem ggX9_suggestCell_X9_requirePrint : GoodIn wsX9_suggestCell wsX9_requirePrint := goodIn_ca (goodIn_r _ [6, 7, 8, 9, 10, 11, 12, 13, 14, 15, 16, 17, 120, 121, 122, 123, 124, 125, 126, 127, 128, 129, 130, 131, 132, 133, 134, 135, 136, 137, 138, 139, 140, 141, 142, 143, 144, 145, 146] (by decide +kernel) (by decide +kernel)) (goodIn_sub (fun _ h => List.mem_cons_of_mem _ (List.mem_append_right _ h)) (by decide +kernel))
set_option maxRecDepth 20000 in
theorem gX9_suggestCell_X9_requirePrint : GoodIn wsX9_suggestCell (wsV RX9 120 RX9 yX9_requirePrint wsX9_requirePrint) := goodIn_app (goodIn_of _ (by decide +kernel)) ggX9_suggestCell_X9_requirePrint
set_option maxRecDepth 20000 in
theorem ggX9_suggestCell_X4_bestCellFor : GoodIn wsX9_suggestCell wsX4_bestCellFor := goodIn_r _ [22, 23, 24, 25, 26, 27, 28, 29, 21, 30, 31, 32, 33, 34, 35, 36, 37, 38, 39, 40, 41, 13, 42, 15, 43, 44, 45, 46, 47, 48, 49, 50, 51, 52, 53, 54, 55, 56, 57, 58, 59, 60, 61, 62, 63, 64, 65, 66, 67, 68, 69, 70, 71, 72, 73, 74, 75, 76, 77, 78, 79, 5, 80, 81, 82, 83, 84, 85, 86, 87, 88, 89, 90, 91, 92, 93, 94, 95, 96, 97, 98, 99, 100, 101, 102, 103, 104, 105, 17, 106, 107, 108, 109, 110, 111, 112, 113, 16, 114, 115, 116, 117, 118, 119, 137, 138, 139, 140, 141, 142, 143, 144, 145, 146, 147, 130, 131, 132, 133, 134, 135, 136, 148, 149, 150, 151, 152, 153] (by decide +kernel) (by decide +kernel)
set_option maxRecDepth 20000 in
theorem gX9_suggestCell_X4_bestCellFor : GoodIn wsX9_suggestCell (wsV RX9 251 RX4 yX4_bestCellFor wsX4_bestCellFor) := goodIn_app (goodIn_of _ (by decide +kernel)) ggX9_suggestCell_X4_bestCellFor
theorem dX9_suggestCell_0 : decode cX9_suggestCell 0 = .ok (.aload_n 0, 1) := by decide +kernel
theorem dX9_suggestCell_1 : decode cX9_suggestCell 1 = .ok (.getfield 21, 3) := by decide +kernel
theorem dX9_suggestCell_4 : decode cX9_suggestCell 4 = .ok (.aload_n 0, 1) := by decide +kernel
theorem dX9_suggestCell_5 : decode cX9_suggestCell 5 = .ok (.iload_n 1, 1) := by decide +kernel
theorem dX9_suggestCell_6 : decode cX9_suggestCell 6 = .ok (.invokevirtual 120, 3) := by decide +kernel
theorem dX9_suggestCell_9 : decode cX9_suggestCell 9 = .ok (.invokevirtual 251, 3) := by decide +kernel
theorem dX9_suggestCell_12 : decode cX9_suggestCell 12 = .ok (.ireturn, 1) := by decide +kernel
set_option maxRecDepth 20000 in
theorem ggX9_trackByErrors_X4_countAheadOf : GoodIn wsX9_trackByErrors wsX4_countAheadOf := goodIn_r _ [12, 13, 14, 15, 16, 17, 18, 19, 11, 20, 21, 22, 23, 24, 25, 26, 27, 28, 29, 30, 31, 32, 33, 34, 35, 36, 37, 38, 39, 40, 41, 42, 43, 44, 45, 46, 47, 48, 49, 50, 51, 52, 53, 54, 55, 56, 57, 58, 59, 60, 61, 62, 63, 64, 65, 66, 67, 68, 69, 70, 71, 72, 73, 74, 75, 76, 77, 78, 79, 80, 81, 99, 100, 101, 102, 92, 93, 94, 95, 96, 97, 98, 103, 104, 105, 106, 107, 108, 109, 110, 111, 112] (by decide +kernel) (by decide +kernel)
set_option maxRecDepth 20000 in
theorem gX9_trackByErrors_X4_countAheadOf : GoodIn wsX9_trackByErrors (wsV RX9 262 RX4 yX4_countAheadOf wsX4_countAheadOf) := goodIn_app (goodIn_of _ (by decide +kernel)) ggX9_trackByErrors_X4_countAheadOf
theorem dX9_trackByErrors_0 : decode cX9_trackByErrors 0 = .ok (.aload_n 0, 1) := by decide +kernel
theorem dX9_trackByErrors_1 : decode cX9_trackByErrors 1 = .ok (.getfield 12, 3) := by decide +kernel
theorem dX9_trackByErrors_4 : decode cX9_trackByErrors 4 = .ok (.getfield 255, 3) := by decide +kernel
theorem dX9_trackByErrors_7 : decode cX9_trackByErrors 7 = .ok (.astore_n 2, 1) := by decide +kernel
theorem dX9_trackByErrors_8 : decode cX9_trackByErrors 8 = .ok (.aload_n 2, 1) := by decide +kernel
theorem dX9_trackByErrors_9 : decode cX9_trackByErrors 9 = .ok (.arraylength, 1) := by decide +kernel
theorem dX9_trackByErrors_10 : decode cX9_trackByErrors 10 = .ok (.istore_n 3, 1) := by decide +kernel
theorem dX9_trackByErrors_11 : decode cX9_trackByErrors 11 = .ok (.iconst 0, 1) := by decide +kernel
theorem dX9_trackByErrors_12 : decode cX9_trackByErrors 12 = .ok (.istore 4, 2) := by decide +kernel
theorem dX9_trackByErrors_14 : decode cX9_trackByErrors 14 = .ok (.iload 4, 2) := by decide +kernel
theorem dX9_trackByErrors_16 : decode cX9_trackByErrors 16 = .ok (.iload_n 3, 1) := by decide +kernel
theorem dX9_trackByErrors_17 : decode cX9_trackByErrors 17 = .ok (.if_icmp .ge 42, 3) := by decide +kernel
theorem dX9_trackByErrors_20 : decode cX9_trackByErrors 20 = .ok (.aload_n 2, 1) := by decide +kernel
theorem dX9_trackByErrors_21 : decode cX9_trackByErrors 21 = .ok (.iload 4, 2) := by decide +kernel
theorem dX9_trackByErrors_23 : decode cX9_trackByErrors 23 = .ok (.aaload, 1) := by decide +kernel
theorem dX9_trackByErrors_24 : decode cX9_trackByErrors 24 = .ok (.astore 5, 2) := by decide +kernel
theorem dX9_trackByErrors_26 : decode cX9_trackByErrors 26 = .ok (.aload 5, 2) := by decide +kernel
theorem dX9_trackByErrors_28 : decode cX9_trackByErrors 28 = .ok (.getfield 259, 3) := by decide +kernel
theorem dX9_trackByErrors_31 : decode cX9_trackByErrors 31 = .ok (.ifCond .eq 22, 3) := by decide +kernel
theorem dX9_trackByErrors_34 : decode cX9_trackByErrors 34 = .ok (.aload_n 0, 1) := by decide +kernel
theorem dX9_trackByErrors_35 : decode cX9_trackByErrors 35 = .ok (.getfield 21, 3) := by decide +kernel
theorem dX9_trackByErrors_38 : decode cX9_trackByErrors 38 = .ok (.aload 5, 2) := by decide +kernel
theorem dX9_trackByErrors_40 : decode cX9_trackByErrors 40 = .ok (.invokevirtual 262, 3) := by decide +kernel
theorem dX9_trackByErrors_43 : decode cX9_trackByErrors 43 = .ok (.iload_n 1, 1) := by decide +kernel
theorem dX9_trackByErrors_44 : decode cX9_trackByErrors 44 = .ok (.if_icmp .ne 9, 3) := by decide +kernel
theorem dX9_trackByErrors_47 : decode cX9_trackByErrors 47 = .ok (.aload 5, 2) := by decide +kernel
theorem dX9_trackByErrors_49 : decode cX9_trackByErrors 49 = .ok (.getfield 236, 3) := by decide +kernel
theorem dX9_trackByErrors_52 : decode cX9_trackByErrors 52 = .ok (.ireturn, 1) := by decide +kernel
theorem dX9_trackByErrors_53 : decode cX9_trackByErrors 53 = .ok (.iinc 4 1, 3) := by decide +kernel
theorem dX9_trackByErrors_56 : decode cX9_trackByErrors 56 = .ok (.goto (-42), 3) := by decide +kernel
theorem dX9_trackByErrors_59 : decode cX9_trackByErrors 59 = .ok (.new 265, 3) := by decide +kernel
theorem dX9_trackByErrors_62 : decode cX9_trackByErrors 62 = .ok (.dup, 1) := by decide +kernel
theorem dX9_trackByErrors_63 : decode cX9_trackByErrors 63 = .ok (.ldc_w 267, 3) := by decide +kernel
theorem dX9_trackByErrors_66 : decode cX9_trackByErrors 66 = .ok (.invokespecial 269, 3) := by decide +kernel
theorem dX9_trackByErrors_69 : decode cX9_trackByErrors 69 = .ok (.athrow, 1) := by decide +kernel
set_option maxRecDepth 20000 in
theorem ggX9_printByDoubts_X0_countAheadOf : GoodIn wsX9_printByDoubts wsX0_countAheadOf := goodIn_r _ [11, 12, 13, 14, 15, 16, 27, 28, 29, 30, 31, 32, 33, 34, 35, 36, 37, 38, 39, 40, 41, 42, 43] (by decide +kernel) (by decide +kernel)
set_option maxRecDepth 20000 in
theorem gX9_printByDoubts_X0_countAheadOf : GoodIn wsX9_printByDoubts (wsV RX9 275 RX0 yX0_countAheadOf wsX0_countAheadOf) := goodIn_app (goodIn_of _ (by decide +kernel)) ggX9_printByDoubts_X0_countAheadOf
theorem dX9_printByDoubts_0 : decode cX9_printByDoubts 0 = .ok (.aload_n 0, 1) := by decide +kernel
theorem dX9_printByDoubts_1 : decode cX9_printByDoubts 1 = .ok (.getfield 12, 3) := by decide +kernel
theorem dX9_printByDoubts_4 : decode cX9_printByDoubts 4 = .ok (.getfield 270, 3) := by decide +kernel
theorem dX9_printByDoubts_7 : decode cX9_printByDoubts 7 = .ok (.astore_n 2, 1) := by decide +kernel
theorem dX9_printByDoubts_8 : decode cX9_printByDoubts 8 = .ok (.aload_n 2, 1) := by decide +kernel
theorem dX9_printByDoubts_9 : decode cX9_printByDoubts 9 = .ok (.arraylength, 1) := by decide +kernel
theorem dX9_printByDoubts_10 : decode cX9_printByDoubts 10 = .ok (.istore_n 3, 1) := by decide +kernel
theorem dX9_printByDoubts_11 : decode cX9_printByDoubts 11 = .ok (.iconst 0, 1) := by decide +kernel
theorem dX9_printByDoubts_12 : decode cX9_printByDoubts 12 = .ok (.istore 4, 2) := by decide +kernel
theorem dX9_printByDoubts_14 : decode cX9_printByDoubts 14 = .ok (.iload 4, 2) := by decide +kernel
theorem dX9_printByDoubts_16 : decode cX9_printByDoubts 16 = .ok (.iload_n 3, 1) := by decide +kernel
theorem dX9_printByDoubts_17 : decode cX9_printByDoubts 17 = .ok (.if_icmp .ge 42, 3) := by decide +kernel
theorem dX9_printByDoubts_20 : decode cX9_printByDoubts 20 = .ok (.aload_n 2, 1) := by decide +kernel
theorem dX9_printByDoubts_21 : decode cX9_printByDoubts 21 = .ok (.iload 4, 2) := by decide +kernel
theorem dX9_printByDoubts_23 : decode cX9_printByDoubts 23 = .ok (.aaload, 1) := by decide +kernel
theorem dX9_printByDoubts_24 : decode cX9_printByDoubts 24 = .ok (.astore 5, 2) := by decide +kernel
theorem dX9_printByDoubts_26 : decode cX9_printByDoubts 26 = .ok (.aload 5, 2) := by decide +kernel
theorem dX9_printByDoubts_28 : decode cX9_printByDoubts 28 = .ok (.getfield 274, 3) := by decide +kernel
theorem dX9_printByDoubts_31 : decode cX9_printByDoubts 31 = .ok (.ifCond .eq 22, 3) := by decide +kernel
theorem dX9_printByDoubts_34 : decode cX9_printByDoubts 34 = .ok (.aload_n 0, 1) := by decide +kernel
theorem dX9_printByDoubts_35 : decode cX9_printByDoubts 35 = .ok (.getfield 12, 3) := by decide +kernel
theorem dX9_printByDoubts_38 : decode cX9_printByDoubts 38 = .ok (.aload 5, 2) := by decide +kernel
theorem dX9_printByDoubts_40 : decode cX9_printByDoubts 40 = .ok (.invokevirtual 275, 3) := by decide +kernel
theorem dX9_printByDoubts_43 : decode cX9_printByDoubts 43 = .ok (.iload_n 1, 1) := by decide +kernel
theorem dX9_printByDoubts_44 : decode cX9_printByDoubts 44 = .ok (.if_icmp .ne 9, 3) := by decide +kernel
theorem dX9_printByDoubts_47 : decode cX9_printByDoubts 47 = .ok (.aload 5, 2) := by decide +kernel
theorem dX9_printByDoubts_49 : decode cX9_printByDoubts 49 = .ok (.getfield 198, 3) := by decide +kernel
theorem dX9_printByDoubts_52 : decode cX9_printByDoubts 52 = .ok (.ireturn, 1) := by decide +kernel
theorem dX9_printByDoubts_53 : decode cX9_printByDoubts 53 = .ok (.iinc 4 1, 3) := by decide +kernel
theorem dX9_printByDoubts_56 : decode cX9_printByDoubts 56 = .ok (.goto (-42), 3) := by decide +kernel
theorem dX9_printByDoubts_59 : decode cX9_printByDoubts 59 = .ok (.new 265, 3) := by decide +kernel
theorem dX9_printByDoubts_62 : decode cX9_printByDoubts 62 = .ok (.dup, 1) := by decide +kernel
theorem dX9_printByDoubts_63 : decode cX9_printByDoubts 63 = .ok (.ldc_w 267, 3) := by decide +kernel
theorem dX9_printByDoubts_66 : decode cX9_printByDoubts 66 = .ok (.invokespecial 269, 3) := by decide +kernel
theorem dX9_printByDoubts_69 : decode cX9_printByDoubts 69 = .ok (.athrow, 1) := by decide +kernel
set_option maxRecDepth 20000 in
theorem ggX9_printIn_X9_requireCell : GoodIn wsX9_printIn wsX9_requireCell := goodIn_ca (goodIn_r _ [6, 7, 8, 9, 10, 5, 11, 12, 13, 14] (by decide +kernel) (by decide +kernel)) (goodIn_sub (fun _ h => List.mem_cons_of_mem _ (List.mem_append_left _ (List.mem_append_right _ h))) (by decide +kernel))
set_option maxRecDepth 20000 in
theorem gX9_printIn_X9_requireCell : GoodIn wsX9_printIn (va_wsS RX9 100 yX9_requireCell wsX9_requireCell) := goodIn_app (goodIn_of _ (by decide +kernel)) ggX9_printIn_X9_requireCell
set_option maxRecDepth 20000 in
theorem ggX9_printIn_X0_inCell : GoodIn wsX9_printIn wsX0_inCell := goodIn_r _ [19, 20, 21, 22, 23, 49, 50, 51, 52, 53, 54, 55, 39, 40, 41, 42, 43, 44, 45, 46, 47, 48] (by decide +kernel) (by decide +kernel)
set_option maxRecDepth 20000 in
theorem gX9_printIn_X0_inCell : GoodIn wsX9_printIn (wsV RX9 277 RX0 yX0_inCell wsX0_inCell) := goodIn_app (goodIn_of _ (by decide +kernel)) ggX9_printIn_X0_inCell
set_option maxRecDepth 20000 in
theorem ggX9_printIn_X9_requireFound : GoodIn wsX9_printIn wsX9_requireFound := goodIn_ca (goodIn_r _ [26, 27, 28] (by decide +kernel) (by decide +kernel)) (goodIn_sub (fun _ h => List.mem_cons_of_mem _ (List.mem_append_right _ h)) (by decide +kernel))
set_option maxRecDepth 20000 in
theorem gX9_printIn_X9_requireFound : GoodIn wsX9_printIn (va_wsS RX9 195 yX9_requireFound wsX9_requireFound) := goodIn_app (goodIn_of _ (by decide +kernel)) ggX9_printIn_X9_requireFound
theorem dX9_printIn_0 : decode cX9_printIn 0 = .ok (.iload_n 1, 1) := by decide +kernel
theorem dX9_printIn_1 : decode cX9_printIn 1 = .ok (.iload_n 2, 1) := by decide +kernel
theorem dX9_printIn_2 : decode cX9_printIn 2 = .ok (.invokestatic 100, 3) := by decide +kernel
theorem dX9_printIn_5 : decode cX9_printIn 5 = .ok (.aload_n 0, 1) := by decide +kernel
theorem dX9_printIn_6 : decode cX9_printIn 6 = .ok (.getfield 12, 3) := by decide +kernel
theorem dX9_printIn_9 : decode cX9_printIn 9 = .ok (.iload_n 1, 1) := by decide +kernel
theorem dX9_printIn_10 : decode cX9_printIn 10 = .ok (.iload_n 2, 1) := by decide +kernel
theorem dX9_printIn_11 : decode cX9_printIn 11 = .ok (.invokevirtual 277, 3) := by decide +kernel
theorem dX9_printIn_14 : decode cX9_printIn 14 = .ok (.invokestatic 195, 3) := by decide +kernel
theorem dX9_printIn_17 : decode cX9_printIn 17 = .ok (.getfield 198, 3) := by decide +kernel
theorem dX9_printIn_20 : decode cX9_printIn 20 = .ok (.ireturn, 1) := by decide +kernel
set_option maxRecDepth 20000 in
theorem ggX9_printsInRow_X9_requireRow : GoodIn wsX9_printsInRow wsX9_requireRow := goodIn_ca (goodIn_r _ [5, 6, 7, 8, 9, 4, 10] (by decide +kernel) (by decide +kernel)) (goodIn_sub (fun _ h => List.mem_cons_of_mem _ (List.mem_append_right _ h)) (by decide +kernel))
set_option maxRecDepth 20000 in
theorem gX9_printsInRow_X9_requireRow : GoodIn wsX9_printsInRow (va_wsS RX9 281 yX9_requireRow wsX9_requireRow) := goodIn_app (goodIn_of _ (by decide +kernel)) ggX9_printsInRow_X9_requireRow
set_option maxRecDepth 20000 in
theorem ggX9_printsInRow_X0_countPrintsInRows : GoodIn wsX9_printsInRow wsX0_countPrintsInRows := goodIn_r _ [15, 16, 17, 18, 29, 30, 31, 32, 33, 34, 35, 36, 37, 38, 39, 40, 41, 42, 43, 44, 45] (by decide +kernel) (by decide +kernel)
set_option maxRecDepth 20000 in
theorem gX9_printsInRow_X0_countPrintsInRows : GoodIn wsX9_printsInRow (wsV RX9 284 RX0 yX0_countPrintsInRows wsX0_countPrintsInRows) := goodIn_app (goodIn_of _ (by decide +kernel)) ggX9_printsInRow_X0_countPrintsInRows
theorem dX9_printsInRow_0 : decode cX9_printsInRow 0 = .ok (.iload_n 1, 1) := by decide +kernel
theorem dX9_printsInRow_1 : decode cX9_printsInRow 1 = .ok (.invokestatic 281, 3) := by decide +kernel
theorem dX9_printsInRow_4 : decode cX9_printsInRow 4 = .ok (.aload_n 0, 1) := by decide +kernel
theorem dX9_printsInRow_5 : decode cX9_printsInRow 5 = .ok (.getfield 12, 3) := by decide +kernel
theorem dX9_printsInRow_8 : decode cX9_printsInRow 8 = .ok (.iload_n 1, 1) := by decide +kernel
theorem dX9_printsInRow_9 : decode cX9_printsInRow 9 = .ok (.iload_n 1, 1) := by decide +kernel
theorem dX9_printsInRow_10 : decode cX9_printsInRow 10 = .ok (.iconst 1, 1) := by decide +kernel
theorem dX9_printsInRow_11 : decode cX9_printsInRow 11 = .ok (.iadd, 1) := by decide +kernel
theorem dX9_printsInRow_12 : decode cX9_printsInRow 12 = .ok (.invokevirtual 284, 3) := by decide +kernel
theorem dX9_printsInRow_15 : decode cX9_printsInRow 15 = .ok (.ireturn, 1) := by decide +kernel
theorem dX9_tideLevel_0 : decode cX9_tideLevel 0 = .ok (.aload_n 0, 1) := by decide +kernel
theorem dX9_tideLevel_1 : decode cX9_tideLevel 1 = .ok (.getfield 12, 3) := by decide +kernel
theorem dX9_tideLevel_4 : decode cX9_tideLevel 4 = .ok (.getfield 287, 3) := by decide +kernel
theorem dX9_tideLevel_7 : decode cX9_tideLevel 7 = .ok (.ireturn, 1) := by decide +kernel
set_option maxRecDepth 20000 in
theorem ggX9_erasedBy_X9_requireLevel : GoodIn wsX9_erasedBy wsX9_requireLevel := goodIn_ca (goodIn_r _ [5, 6, 7, 8, 9, 4, 10] (by decide +kernel) (by decide +kernel)) (goodIn_sub (fun _ h => List.mem_cons_of_mem _ (List.mem_append_right _ h)) (by decide +kernel))
set_option maxRecDepth 20000 in
theorem gX9_erasedBy_X9_requireLevel : GoodIn wsX9_erasedBy (va_wsS RX9 159 yX9_requireLevel wsX9_requireLevel) := goodIn_app (goodIn_of _ (by decide +kernel)) ggX9_erasedBy_X9_requireLevel
set_option maxRecDepth 20000 in
theorem ggX9_erasedBy_X0_countPrintsInRows : GoodIn wsX9_erasedBy wsX0_countPrintsInRows := goodIn_r _ [15, 16, 17, 18, 29, 30, 31, 32, 33, 34, 35, 36, 37, 38, 39, 40, 41, 42, 43, 44, 45] (by decide +kernel) (by decide +kernel)
set_option maxRecDepth 20000 in
theorem gX9_erasedBy_X0_countPrintsInRows : GoodIn wsX9_erasedBy (wsV RX9 284 RX0 yX0_countPrintsInRows wsX0_countPrintsInRows) := goodIn_app (goodIn_of _ (by decide +kernel)) ggX9_erasedBy_X0_countPrintsInRows
theorem dX9_erasedBy_0 : decode cX9_erasedBy 0 = .ok (.iload_n 1, 1) := by decide +kernel
theorem dX9_erasedBy_1 : decode cX9_erasedBy 1 = .ok (.invokestatic 159, 3) := by decide +kernel
theorem dX9_erasedBy_4 : decode cX9_erasedBy 4 = .ok (.aload_n 0, 1) := by decide +kernel
theorem dX9_erasedBy_5 : decode cX9_erasedBy 5 = .ok (.getfield 12, 3) := by decide +kernel
theorem dX9_erasedBy_8 : decode cX9_erasedBy 8 = .ok (.iconst 0, 1) := by decide +kernel
theorem dX9_erasedBy_9 : decode cX9_erasedBy 9 = .ok (.iload_n 1, 1) := by decide +kernel
theorem dX9_erasedBy_10 : decode cX9_erasedBy 10 = .ok (.invokevirtual 284, 3) := by decide +kernel
theorem dX9_erasedBy_13 : decode cX9_erasedBy 13 = .ok (.ireturn, 1) := by decide +kernel
set_option maxRecDepth 20000 in
theorem ggX9_trackCount_X0_countTracks : GoodIn wsX9_trackCount wsX0_countTracks := goodIn_r _ [6, 7, 8, 19, 20, 21, 22, 23, 24, 25, 26, 27, 28] (by decide +kernel) (by decide +kernel)
set_option maxRecDepth 20000 in
theorem gX9_trackCount_X0_countTracks : GoodIn wsX9_trackCount (wsV RX9 290 RX0 yX0_countTracks wsX0_countTracks) := goodIn_app (goodIn_of _ (by decide +kernel)) ggX9_trackCount_X0_countTracks
theorem dX9_trackCount_0 : decode cX9_trackCount 0 = .ok (.aload_n 0, 1) := by decide +kernel
theorem dX9_trackCount_1 : decode cX9_trackCount 1 = .ok (.getfield 12, 3) := by decide +kernel
theorem dX9_trackCount_4 : decode cX9_trackCount 4 = .ok (.invokevirtual 290, 3) := by decide +kernel
theorem dX9_trackCount_7 : decode cX9_trackCount 7 = .ok (.ireturn, 1) := by decide +kernel
set_option maxRecDepth 20000 in
theorem ggX9_totalPrints_X0_countAllPrints : GoodIn wsX9_totalPrints wsX0_countAllPrints := goodIn_r _ [6, 7, 8, 9, 5, 10, 11, 12, 13, 24, 25, 26, 27, 28, 29, 30, 31, 32, 33, 34, 35, 36, 37, 38, 39, 40] (by decide +kernel) (by decide +kernel)
set_option maxRecDepth 20000 in
theorem gX9_totalPrints_X0_countAllPrints : GoodIn wsX9_totalPrints (wsV RX9 293 RX0 yX0_countAllPrints wsX0_countAllPrints) := goodIn_app (goodIn_of _ (by decide +kernel)) ggX9_totalPrints_X0_countAllPrints
theorem dX9_totalPrints_0 : decode cX9_totalPrints 0 = .ok (.aload_n 0, 1) := by decide +kernel
theorem dX9_totalPrints_1 : decode cX9_totalPrints 1 = .ok (.getfield 12, 3) := by decide +kernel
theorem dX9_totalPrints_4 : decode cX9_totalPrints 4 = .ok (.invokevirtual 293, 3) := by decide +kernel
theorem dX9_totalPrints_7 : decode cX9_totalPrints 7 = .ok (.ireturn, 1) := by decide +kernel
set_option maxRecDepth 20000 in
theorem ggX9_lateShare_X0_countAllPrints : GoodIn wsX9_lateShare wsX0_countAllPrints := goodIn_r _ [8, 9, 10, 11, 7, 12, 13, 14, 15, 31, 32, 33, 34, 35, 36, 37, 38, 39, 40, 41, 42, 43, 44, 45, 46, 47] (by decide +kernel) (by decide +kernel)
set_option maxRecDepth 20000 in
theorem gX9_lateShare_X0_countAllPrints : GoodIn wsX9_lateShare (wsV RX9 293 RX0 yX0_countAllPrints wsX0_countAllPrints) := goodIn_app (goodIn_of _ (by decide +kernel)) ggX9_lateShare_X0_countAllPrints
set_option maxRecDepth 20000 in
theorem ggX9_lateShare_X0_countLatePrints : GoodIn wsX9_lateShare wsX0_countLatePrints := goodIn_r _ [19, 13, 14, 20, 31, 32, 33, 34, 35, 36, 37, 38, 39, 40, 41, 42, 43, 44, 45, 46, 47] (by decide +kernel) (by decide +kernel)
set_option maxRecDepth 20000 in
theorem gX9_lateShare_X0_countLatePrints : GoodIn wsX9_lateShare (wsV RX9 304 RX0 yX0_countLatePrints wsX0_countLatePrints) := goodIn_app (goodIn_of _ (by decide +kernel)) ggX9_lateShare_X0_countLatePrints
theorem dX9_lateShare_0 : decode cX9_lateShare 0 = .ok (.aload_n 0, 1) := by decide +kernel
theorem dX9_lateShare_1 : decode cX9_lateShare 1 = .ok (.getfield 12, 3) := by decide +kernel
theorem dX9_lateShare_4 : decode cX9_lateShare 4 = .ok (.invokevirtual 293, 3) := by decide +kernel
theorem dX9_lateShare_7 : decode cX9_lateShare 7 = .ok (.istore_n 1, 1) := by decide +kernel
theorem dX9_lateShare_8 : decode cX9_lateShare 8 = .ok (.iload_n 1, 1) := by decide +kernel
theorem dX9_lateShare_9 : decode cX9_lateShare 9 = .ok (.ifCond .ne 14, 3) := by decide +kernel
theorem dX9_lateShare_12 : decode cX9_lateShare 12 = .ok (.new 243, 3) := by decide +kernel
theorem dX9_lateShare_15 : decode cX9_lateShare 15 = .ok (.dup, 1) := by decide +kernel
theorem dX9_lateShare_16 : decode cX9_lateShare 16 = .ok (.ldc_w 302, 3) := by decide +kernel
theorem dX9_lateShare_19 : decode cX9_lateShare 19 = .ok (.invokespecial 247, 3) := by decide +kernel
theorem dX9_lateShare_22 : decode cX9_lateShare 22 = .ok (.athrow, 1) := by decide +kernel
theorem dX9_lateShare_23 : decode cX9_lateShare 23 = .ok (.aload_n 0, 1) := by decide +kernel
theorem dX9_lateShare_24 : decode cX9_lateShare 24 = .ok (.getfield 12, 3) := by decide +kernel
theorem dX9_lateShare_27 : decode cX9_lateShare 27 = .ok (.invokevirtual 304, 3) := by decide +kernel
theorem dX9_lateShare_30 : decode cX9_lateShare 30 = .ok (.i2f, 1) := by decide +kernel
theorem dX9_lateShare_31 : decode cX9_lateShare 31 = .ok (.iload_n 1, 1) := by decide +kernel
theorem dX9_lateShare_32 : decode cX9_lateShare 32 = .ok (.i2f, 1) := by decide +kernel
theorem dX9_lateShare_33 : decode cX9_lateShare 33 = .ok (.fdiv, 1) := by decide +kernel
theorem dX9_lateShare_34 : decode cX9_lateShare 34 = .ok (.freturn, 1) := by decide +kernel
set_option maxRecDepth 20000 in
theorem ggX9_isConsistent_X4_holds : GoodIn wsX9_isConsistent wsX4_holds := goodIn_r _ [6, 7, 8, 9, 10, 11, 12, 13, 14, 15, 16, 5, 17, 18, 19, 20, 21, 22, 23, 24, 25, 26, 27, 28, 29, 30, 31, 32, 33, 34, 35, 36, 37, 38, 39, 40, 41, 42, 43, 44, 45, 46, 47, 48, 49, 50, 51, 52, 53, 54, 55, 56, 57, 58, 59, 60, 61, 62, 63, 64, 65, 66, 67, 68, 69, 70, 71, 72, 73, 74, 75, 76, 77, 78, 79, 80, 81, 82, 83, 84, 85, 86, 87, 88, 89, 90, 91, 92, 93, 94, 95, 96, 97, 98, 99, 100, 101, 102, 103, 104, 105, 106, 107, 108, 109, 110, 111, 112, 113, 124, 125, 126, 127, 128, 129, 130, 131, 132, 133, 134, 135, 136, 137, 138, 139, 140, 141, 142, 143, 144] (by decide +kernel) (by decide +kernel)
set_option maxRecDepth 20000 in
theorem gX9_isConsistent_X4_holds : GoodIn wsX9_isConsistent (wsV RX9 307 RX4 yX4_holds wsX4_holds) := goodIn_app (goodIn_of _ (by decide +kernel)) ggX9_isConsistent_X4_holds
theorem dX9_isConsistent_0 : decode cX9_isConsistent 0 = .ok (.aload_n 0, 1) := by decide +kernel
theorem dX9_isConsistent_1 : decode cX9_isConsistent 1 = .ok (.getfield 21, 3) := by decide +kernel
theorem dX9_isConsistent_4 : decode cX9_isConsistent 4 = .ok (.invokevirtual 307, 3) := by decide +kernel
theorem dX9_isConsistent_7 : decode cX9_isConsistent 7 = .ok (.ireturn, 1) := by decide +kernel
set_option maxRecDepth 20000 in
theorem ggX9_writeTrack_X9_requireTrack : GoodIn wsX9_writeTrack wsX9_requireTrack := goodIn_ca (goodIn_r _ [8, 9, 10, 2, 11, 12, 13, 14, 15, 16, 17, 18, 111, 112, 113, 114, 115, 116, 117, 118, 119, 120, 123, 124, 125, 126, 127, 128, 129, 130, 131, 132] (by decide +kernel) (by decide +kernel)) (goodIn_sub (fun _ h => List.mem_cons_of_mem _ (List.mem_append_left _ (List.mem_append_right _ h))) (by decide +kernel))
set_option maxRecDepth 20000 in
theorem gX9_writeTrack_X9_requireTrack : GoodIn wsX9_writeTrack (wsV RX9 92 RX9 yX9_requireTrack wsX9_requireTrack) := goodIn_app (goodIn_of _ (by decide +kernel)) ggX9_writeTrack_X9_requireTrack
set_option maxRecDepth 20000 in
theorem ggX9_writeTrack_X7_clear : GoodIn wsX9_writeTrack wsX7_clear := goodIn_r _ [23, 24, 121, 122] (by decide +kernel) (by decide +kernel)
set_option maxRecDepth 20000 in
theorem gX9_writeTrack_X7_clear : GoodIn wsX9_writeTrack (wsV RX9 310 RX7 yX7_clear wsX7_clear) := goodIn_app (goodIn_of _ (by decide +kernel)) ggX9_writeTrack_X7_clear
set_option maxRecDepth 20000 in
theorem ggX9_writeTrack_X0_countPrints : GoodIn wsX9_writeTrack wsX0_countPrints := goodIn_r _ [28, 18, 29, 30, 31, 14, 32, 33, 34, 35, 36, 37, 38, 39, 40, 41, 130, 131, 132, 123, 124, 125, 126, 127, 128, 129, 133, 134, 135, 136, 137, 138, 139, 140, 141, 142] (by decide +kernel) (by decide +kernel)
set_option maxRecDepth 20000 in
theorem gX9_writeTrack_X0_countPrints : GoodIn wsX9_writeTrack (wsV RX9 223 RX0 yX0_countPrints wsX0_countPrints) := goodIn_app (goodIn_of _ (by decide +kernel)) ggX9_writeTrack_X0_countPrints
set_option maxRecDepth 20000 in
theorem ggX9_writeTrack_X0_inPlace : GoodIn wsX9_writeTrack wsX0_inPlace := goodIn_r _ [45, 33, 18, 34, 35, 36, 37, 38, 39, 40, 41, 29, 30, 31, 14, 32, 123, 124, 125, 126, 127, 128, 129, 130, 131, 132, 133, 134, 135, 136, 137, 138, 139, 140, 141, 142] (by decide +kernel) (by decide +kernel)
set_option maxRecDepth 20000 in
theorem gX9_writeTrack_X0_inPlace : GoodIn wsX9_writeTrack (wsV RX9 226 RX0 yX0_inPlace wsX0_inPlace) := goodIn_app (goodIn_of _ (by decide +kernel)) ggX9_writeTrack_X0_inPlace
set_option maxRecDepth 20000 in
theorem ggX9_writeTrack_X9_writePrint : GoodIn wsX9_writeTrack wsX9_writePrint := goodIn_ca (goodIn_r _ [49, 1, 50, 51, 52, 53, 54, 55, 22, 56, 24, 57, 58, 59, 60, 61, 62, 63, 64, 65, 66, 67, 68, 69, 70, 14, 71, 33, 72, 34, 35, 36, 37, 38, 39, 40, 41, 73, 74, 75, 76, 77, 78, 79, 80, 81, 12, 13, 15, 16, 17, 18, 82, 83, 84, 85, 86, 87, 88, 89, 90, 91, 92, 93, 94, 95, 96, 97, 98, 99, 100, 101, 102, 103, 104, 105, 106, 107, 108, 109, 110, 111, 112, 113, 114, 115, 116, 117, 118, 119, 120, 133, 134, 135, 136, 137, 138, 139, 140, 141, 142, 121, 122, 143, 123, 124, 125, 126, 127, 128, 129, 130, 131, 132] (by decide +kernel) (by decide +kernel)) (goodIn_sub (fun _ h => List.mem_cons_of_mem _ (List.mem_append_right _ h)) (by decide +kernel))
set_option maxRecDepth 20000 in
theorem gX9_writeTrack_X9_writePrint : GoodIn wsX9_writeTrack (wsV RX9 313 RX9 yX9_writePrint wsX9_writePrint) := goodIn_app (goodIn_of _ (by decide +kernel)) ggX9_writeTrack_X9_writePrint
theorem dX9_writeTrack_0 : decode cX9_writeTrack 0 = .ok (.aload_n 0, 1) := by decide +kernel
theorem dX9_writeTrack_1 : decode cX9_writeTrack 1 = .ok (.iload_n 1, 1) := by decide +kernel
theorem dX9_writeTrack_2 : decode cX9_writeTrack 2 = .ok (.invokevirtual 92, 3) := by decide +kernel
theorem dX9_writeTrack_5 : decode cX9_writeTrack 5 = .ok (.astore_n 2, 1) := by decide +kernel
theorem dX9_writeTrack_6 : decode cX9_writeTrack 6 = .ok (.aload_n 0, 1) := by decide +kernel
theorem dX9_writeTrack_7 : decode cX9_writeTrack 7 = .ok (.getfield 54, 3) := by decide +kernel
theorem dX9_writeTrack_10 : decode cX9_writeTrack 10 = .ok (.invokevirtual 310, 3) := by decide +kernel
theorem dX9_writeTrack_13 : decode cX9_writeTrack 13 = .ok (.aload_n 0, 1) := by decide +kernel
theorem dX9_writeTrack_14 : decode cX9_writeTrack 14 = .ok (.getfield 12, 3) := by decide +kernel
theorem dX9_writeTrack_17 : decode cX9_writeTrack 17 = .ok (.aload_n 2, 1) := by decide +kernel
theorem dX9_writeTrack_18 : decode cX9_writeTrack 18 = .ok (.invokevirtual 223, 3) := by decide +kernel
theorem dX9_writeTrack_21 : decode cX9_writeTrack 21 = .ok (.istore_n 3, 1) := by decide +kernel
theorem dX9_writeTrack_22 : decode cX9_writeTrack 22 = .ok (.iconst 0, 1) := by decide +kernel
theorem dX9_writeTrack_23 : decode cX9_writeTrack 23 = .ok (.istore 4, 2) := by decide +kernel
theorem dX9_writeTrack_25 : decode cX9_writeTrack 25 = .ok (.iload 4, 2) := by decide +kernel
theorem dX9_writeTrack_27 : decode cX9_writeTrack 27 = .ok (.iload_n 3, 1) := by decide +kernel
theorem dX9_writeTrack_28 : decode cX9_writeTrack 28 = .ok (.if_icmp .ge 23, 3) := by decide +kernel
theorem dX9_writeTrack_31 : decode cX9_writeTrack 31 = .ok (.aload_n 0, 1) := by decide +kernel
theorem dX9_writeTrack_32 : decode cX9_writeTrack 32 = .ok (.aload_n 0, 1) := by decide +kernel
theorem dX9_writeTrack_33 : decode cX9_writeTrack 33 = .ok (.getfield 12, 3) := by decide +kernel
theorem dX9_writeTrack_36 : decode cX9_writeTrack 36 = .ok (.aload_n 2, 1) := by decide +kernel
theorem dX9_writeTrack_37 : decode cX9_writeTrack 37 = .ok (.iload 4, 2) := by decide +kernel
theorem dX9_writeTrack_39 : decode cX9_writeTrack 39 = .ok (.invokevirtual 226, 3) := by decide +kernel
theorem dX9_writeTrack_42 : decode cX9_writeTrack 42 = .ok (.invokevirtual 313, 3) := by decide +kernel
theorem dX9_writeTrack_45 : decode cX9_writeTrack 45 = .ok (.iinc 4 1, 3) := by decide +kernel
theorem dX9_writeTrack_48 : decode cX9_writeTrack 48 = .ok (.goto (-23), 3) := by decide +kernel
theorem dX9_writeTrack_51 : decode cX9_writeTrack 51 = .ok (.aload_n 0, 1) := by decide +kernel
theorem dX9_writeTrack_52 : decode cX9_writeTrack 52 = .ok (.getfield 54, 3) := by decide +kernel
theorem dX9_writeTrack_55 : decode cX9_writeTrack 55 = .ok (.getfield 316, 3) := by decide +kernel
theorem dX9_writeTrack_58 : decode cX9_writeTrack 58 = .ok (.ireturn, 1) := by decide +kernel
set_option maxRecDepth 20000 in
theorem ggX9_writePrint_X7_append : GoodIn wsX9_writePrint wsX7_append := goodIn_ca (goodIn_r _ [9, 10, 11, 101, 102] (by decide +kernel) (by decide +kernel)) (goodIn_sub (fun _ h => List.mem_cons_of_mem _ (List.mem_append_right _ h)) (by decide +kernel))
set_option maxRecDepth 20000 in
theorem gX9_writePrint_X7_append : GoodIn wsX9_writePrint (wsV RX9 319 RX7 yX7_append wsX7_append) := goodIn_app (goodIn_of _ (by decide +kernel)) ggX9_writePrint_X7_append
set_option maxRecDepth 20000 in
theorem ggX9_writePrint_X4_hasError : GoodIn wsX9_writePrint wsX4_hasError := goodIn_r _ [16, 17, 18, 19, 15, 20, 21, 22, 23, 24, 25, 26, 27, 28, 29, 30, 31, 32, 33, 34, 35, 36, 37, 38, 39, 40, 41, 42, 43, 44, 45, 46, 47, 48, 49, 50, 51, 52, 53, 54, 55, 56, 57, 58, 59, 60, 61, 62, 63, 64, 65, 66, 67, 68, 69, 70, 71, 72, 73, 74, 75, 76, 77, 78, 79, 80, 103, 104, 105, 106, 107, 108, 109, 110, 91, 92, 93, 94, 95, 96, 97, 98, 99, 100, 111, 112, 113] (by decide +kernel) (by decide +kernel)
set_option maxRecDepth 20000 in
theorem gX9_writePrint_X4_hasError : GoodIn wsX9_writePrint (wsV RX9 323 RX4 yX4_hasError wsX4_hasError) := goodIn_app (goodIn_of _ (by decide +kernel)) ggX9_writePrint_X4_hasError
theorem dX9_writePrint_0 : decode cX9_writePrint 0 = .ok (.aload_n 1, 1) := by decide +kernel
theorem dX9_writePrint_1 : decode cX9_writePrint 1 = .ok (.ifnonnull 4, 3) := by decide +kernel
theorem dX9_writePrint_4 : decode cX9_writePrint 4 = .ok (.return_, 1) := by decide +kernel
theorem dX9_writePrint_5 : decode cX9_writePrint 5 = .ok (.aload_n 0, 1) := by decide +kernel
theorem dX9_writePrint_6 : decode cX9_writePrint 6 = .ok (.getfield 54, 3) := by decide +kernel
theorem dX9_writePrint_9 : decode cX9_writePrint 9 = .ok (.aload_n 1, 1) := by decide +kernel
theorem dX9_writePrint_10 : decode cX9_writePrint 10 = .ok (.getfield 179, 3) := by decide +kernel
theorem dX9_writePrint_13 : decode cX9_writePrint 13 = .ok (.ifCond .eq 8, 3) := by decide +kernel
theorem dX9_writePrint_16 : decode cX9_writePrint 16 = .ok (.bipush 76, 2) := by decide +kernel
theorem dX9_writePrint_18 : decode cX9_writePrint 18 = .ok (.goto 5, 3) := by decide +kernel
theorem dX9_writePrint_21 : decode cX9_writePrint 21 = .ok (.bipush 82, 2) := by decide +kernel
theorem dX9_writePrint_23 : decode cX9_writePrint 23 = .ok (.invokevirtual 319, 3) := by decide +kernel
theorem dX9_writePrint_26 : decode cX9_writePrint 26 = .ok (.aload_n 1, 1) := by decide +kernel
theorem dX9_writePrint_27 : decode cX9_writePrint 27 = .ok (.getfield 185, 3) := by decide +kernel
theorem dX9_writePrint_30 : decode cX9_writePrint 30 = .ok (.ifCond .le 12, 3) := by decide +kernel
theorem dX9_writePrint_33 : decode cX9_writePrint 33 = .ok (.aload_n 0, 1) := by decide +kernel
theorem dX9_writePrint_34 : decode cX9_writePrint 34 = .ok (.getfield 54, 3) := by decide +kernel
theorem dX9_writePrint_37 : decode cX9_writePrint 37 = .ok (.bipush 63, 2) := by decide +kernel
theorem dX9_writePrint_39 : decode cX9_writePrint 39 = .ok (.invokevirtual 319, 3) := by decide +kernel
theorem dX9_writePrint_42 : decode cX9_writePrint 42 = .ok (.aload_n 0, 1) := by decide +kernel
theorem dX9_writePrint_43 : decode cX9_writePrint 43 = .ok (.getfield 21, 3) := by decide +kernel
theorem dX9_writePrint_46 : decode cX9_writePrint 46 = .ok (.aload_n 1, 1) := by decide +kernel
theorem dX9_writePrint_47 : decode cX9_writePrint 47 = .ok (.invokevirtual 323, 3) := by decide +kernel
theorem dX9_writePrint_50 : decode cX9_writePrint 50 = .ok (.ifCond .eq 12, 3) := by decide +kernel
theorem dX9_writePrint_53 : decode cX9_writePrint 53 = .ok (.aload_n 0, 1) := by decide +kernel
theorem dX9_writePrint_54 : decode cX9_writePrint 54 = .ok (.getfield 54, 3) := by decide +kernel
theorem dX9_writePrint_57 : decode cX9_writePrint 57 = .ok (.bipush 33, 2) := by decide +kernel
theorem dX9_writePrint_59 : decode cX9_writePrint 59 = .ok (.invokevirtual 319, 3) := by decide +kernel
theorem dX9_writePrint_62 : decode cX9_writePrint 62 = .ok (.return_, 1) := by decide +kernel
set_option maxRecDepth 20000 in
theorem ggX9_writeRow_X9_requireRow : GoodIn wsX9_writeRow wsX9_requireRow := goodIn_ca (goodIn_r _ [6, 7, 8, 9, 10, 5, 11] (by decide +kernel) (by decide +kernel)) (goodIn_sub (fun _ h => List.mem_cons_of_mem _ (List.mem_append_left _ (List.mem_append_right _ h))) (by decide +kernel))
set_option maxRecDepth 20000 in
theorem gX9_writeRow_X9_requireRow : GoodIn wsX9_writeRow (va_wsS RX9 281 yX9_requireRow wsX9_requireRow) := goodIn_app (goodIn_of _ (by decide +kernel)) ggX9_writeRow_X9_requireRow
set_option maxRecDepth 20000 in
theorem ggX9_writeRow_X7_clear : GoodIn wsX9_writeRow wsX7_clear := goodIn_r _ [16, 17, 53, 54] (by decide +kernel) (by decide +kernel)
set_option maxRecDepth 20000 in
theorem gX9_writeRow_X7_clear : GoodIn wsX9_writeRow (wsV RX9 310 RX7 yX7_clear wsX7_clear) := goodIn_app (goodIn_of _ (by decide +kernel)) ggX9_writeRow_X7_clear
set_option maxRecDepth 20000 in
theorem ggX9_writeRow_X9_signOf : GoodIn wsX9_writeRow wsX9_signOf := goodIn_r _ [21, 22, 23, 24, 25, 26, 27, 28, 29, 30, 31, 32, 33, 34, 35, 36, 37, 43, 44, 45, 46, 47, 48, 49, 50, 51, 52, 55, 56, 57, 58, 59, 60, 61, 62, 63, 64, 65, 66, 67, 68, 69, 70, 71] (by decide +kernel) (by decide +kernel)
set_option maxRecDepth 20000 in
theorem gX9_writeRow_X9_signOf : GoodIn wsX9_writeRow (wsV RX9 326 RX9 yX9_signOf wsX9_signOf) := goodIn_app (goodIn_of _ (by decide +kernel)) ggX9_writeRow_X9_signOf
set_option maxRecDepth 20000 in
theorem ggX9_writeRow_X7_append : GoodIn wsX9_writeRow wsX7_append := goodIn_ca (goodIn_r _ [41, 17, 42, 53, 54] (by decide +kernel) (by decide +kernel)) (goodIn_sub (fun _ h => List.mem_cons_of_mem _ (List.mem_append_right _ h)) (by decide +kernel))
set_option maxRecDepth 20000 in
theorem gX9_writeRow_X7_append : GoodIn wsX9_writeRow (wsV RX9 319 RX7 yX7_append wsX7_append) := goodIn_app (goodIn_of _ (by decide +kernel)) ggX9_writeRow_X7_append
theorem dX9_writeRow_0 : decode cX9_writeRow 0 = .ok (.iload_n 1, 1) := by decide +kernel
theorem dX9_writeRow_1 : decode cX9_writeRow 1 = .ok (.invokestatic 281, 3) := by decide +kernel
theorem dX9_writeRow_4 : decode cX9_writeRow 4 = .ok (.aload_n 0, 1) := by decide +kernel
theorem dX9_writeRow_5 : decode cX9_writeRow 5 = .ok (.getfield 54, 3) := by decide +kernel
theorem dX9_writeRow_8 : decode cX9_writeRow 8 = .ok (.invokevirtual 310, 3) := by decide +kernel
theorem dX9_writeRow_11 : decode cX9_writeRow 11 = .ok (.iconst 0, 1) := by decide +kernel
theorem dX9_writeRow_12 : decode cX9_writeRow 12 = .ok (.istore_n 2, 1) := by decide +kernel
theorem dX9_writeRow_13 : decode cX9_writeRow 13 = .ok (.iload_n 2, 1) := by decide +kernel
theorem dX9_writeRow_14 : decode cX9_writeRow 14 = .ok (.bipush 20, 2) := by decide +kernel
theorem dX9_writeRow_16 : decode cX9_writeRow 16 = .ok (.if_icmp .ge 22, 3) := by decide +kernel
theorem dX9_writeRow_19 : decode cX9_writeRow 19 = .ok (.aload_n 0, 1) := by decide +kernel
theorem dX9_writeRow_20 : decode cX9_writeRow 20 = .ok (.getfield 54, 3) := by decide +kernel
theorem dX9_writeRow_23 : decode cX9_writeRow 23 = .ok (.aload_n 0, 1) := by decide +kernel
theorem dX9_writeRow_24 : decode cX9_writeRow 24 = .ok (.iload_n 1, 1) := by decide +kernel
theorem dX9_writeRow_25 : decode cX9_writeRow 25 = .ok (.iload_n 2, 1) := by decide +kernel
theorem dX9_writeRow_26 : decode cX9_writeRow 26 = .ok (.invokevirtual 326, 3) := by decide +kernel
theorem dX9_writeRow_29 : decode cX9_writeRow 29 = .ok (.invokevirtual 319, 3) := by decide +kernel
theorem dX9_writeRow_32 : decode cX9_writeRow 32 = .ok (.iinc 2 1, 3) := by decide +kernel
theorem dX9_writeRow_35 : decode cX9_writeRow 35 = .ok (.goto (-22), 3) := by decide +kernel
theorem dX9_writeRow_38 : decode cX9_writeRow 38 = .ok (.aload_n 0, 1) := by decide +kernel
theorem dX9_writeRow_39 : decode cX9_writeRow 39 = .ok (.getfield 54, 3) := by decide +kernel
theorem dX9_writeRow_42 : decode cX9_writeRow 42 = .ok (.getfield 316, 3) := by decide +kernel
theorem dX9_writeRow_45 : decode cX9_writeRow 45 = .ok (.ireturn, 1) := by decide +kernel
set_option maxRecDepth 20000 in
theorem ggX9_signOf_X0_isUnderWater : GoodIn wsX9_signOf wsX0_isUnderWater := goodIn_r _ [7, 8, 37, 38, 39, 40, 41, 42, 43] (by decide +kernel) (by decide +kernel)
set_option maxRecDepth 20000 in
theorem gX9_signOf_X0_isUnderWater : GoodIn wsX9_signOf (wsV RX9 330 RX0 yX0_isUnderWater wsX0_isUnderWater) := goodIn_app (goodIn_of _ (by decide +kernel)) ggX9_signOf_X0_isUnderWater
set_option maxRecDepth 20000 in
theorem ggX9_signOf_X0_inCell : GoodIn wsX9_signOf wsX0_inCell := goodIn_r _ [12, 13, 14, 15, 16, 37, 38, 39, 40, 41, 42, 43, 27, 28, 29, 30, 31, 32, 33, 34, 35, 36] (by decide +kernel) (by decide +kernel)
set_option maxRecDepth 20000 in
theorem gX9_signOf_X0_inCell : GoodIn wsX9_signOf (wsV RX9 277 RX0 yX0_inCell wsX0_inCell) := goodIn_app (goodIn_of _ (by decide +kernel)) ggX9_signOf_X0_inCell
theorem dX9_signOf_0 : decode cX9_signOf 0 = .ok (.aload_n 0, 1) := by decide +kernel
theorem dX9_signOf_1 : decode cX9_signOf 1 = .ok (.getfield 12, 3) := by decide +kernel
theorem dX9_signOf_4 : decode cX9_signOf 4 = .ok (.iload_n 1, 1) := by decide +kernel
theorem dX9_signOf_5 : decode cX9_signOf 5 = .ok (.invokevirtual 330, 3) := by decide +kernel
theorem dX9_signOf_8 : decode cX9_signOf 8 = .ok (.ifCond .eq 6, 3) := by decide +kernel
theorem dX9_signOf_11 : decode cX9_signOf 11 = .ok (.bipush 126, 2) := by decide +kernel
theorem dX9_signOf_13 : decode cX9_signOf 13 = .ok (.ireturn, 1) := by decide +kernel
theorem dX9_signOf_14 : decode cX9_signOf 14 = .ok (.aload_n 0, 1) := by decide +kernel
theorem dX9_signOf_15 : decode cX9_signOf 15 = .ok (.getfield 12, 3) := by decide +kernel
theorem dX9_signOf_18 : decode cX9_signOf 18 = .ok (.iload_n 1, 1) := by decide +kernel
theorem dX9_signOf_19 : decode cX9_signOf 19 = .ok (.iload_n 2, 1) := by decide +kernel
theorem dX9_signOf_20 : decode cX9_signOf 20 = .ok (.invokevirtual 277, 3) := by decide +kernel
theorem dX9_signOf_23 : decode cX9_signOf 23 = .ok (.astore_n 3, 1) := by decide +kernel
theorem dX9_signOf_24 : decode cX9_signOf 24 = .ok (.aload_n 3, 1) := by decide +kernel
theorem dX9_signOf_25 : decode cX9_signOf 25 = .ok (.ifnonnull 8, 3) := by decide +kernel
theorem dX9_signOf_28 : decode cX9_signOf 28 = .ok (.bipush 46, 2) := by decide +kernel
theorem dX9_signOf_30 : decode cX9_signOf 30 = .ok (.goto 14, 3) := by decide +kernel
theorem dX9_signOf_33 : decode cX9_signOf 33 = .ok (.bipush 48, 2) := by decide +kernel
theorem dX9_signOf_35 : decode cX9_signOf 35 = .ok (.aload_n 3, 1) := by decide +kernel
theorem dX9_signOf_36 : decode cX9_signOf 36 = .ok (.getfield 198, 3) := by decide +kernel
theorem dX9_signOf_39 : decode cX9_signOf 39 = .ok (.bipush 10, 2) := by decide +kernel
theorem dX9_signOf_41 : decode cX9_signOf 41 = .ok (.irem, 1) := by decide +kernel
theorem dX9_signOf_42 : decode cX9_signOf 42 = .ok (.iadd, 1) := by decide +kernel
theorem dX9_signOf_43 : decode cX9_signOf 43 = .ok (.i2c, 1) := by decide +kernel
theorem dX9_signOf_44 : decode cX9_signOf 44 = .ok (.ireturn, 1) := by decide +kernel
set_option maxRecDepth 20000 in
theorem ggX9_outputAt_X7_reaches : GoodIn wsX9_outputAt wsX7_reaches := goodIn_r _ [8, 9, 10, 26, 27] (by decide +kernel) (by decide +kernel)
set_option maxRecDepth 20000 in
theorem gX9_outputAt_X7_reaches : GoodIn wsX9_outputAt (wsV RX9 333 RX7 yX7_reaches wsX7_reaches) := goodIn_app (goodIn_of _ (by decide +kernel)) ggX9_outputAt_X7_reaches
set_option maxRecDepth 20000 in
theorem ggX9_outputAt_X7_signAt : GoodIn wsX9_outputAt wsX7_signAt := goodIn_ca (goodIn_r _ [14, 10, 15, 5, 6, 7, 8, 9, 26, 27] (by decide +kernel) (by decide +kernel)) (goodIn_sub (fun _ h => List.mem_cons_of_mem _ (List.mem_append_right _ h)) (by decide +kernel))
set_option maxRecDepth 20000 in
theorem gX9_outputAt_X7_signAt : GoodIn wsX9_outputAt (wsV RX9 341 RX7 yX7_signAt wsX7_signAt) := goodIn_app (goodIn_of _ (by decide +kernel)) ggX9_outputAt_X7_signAt
theorem dX9_outputAt_0 : decode cX9_outputAt 0 = .ok (.aload_n 0, 1) := by decide +kernel
theorem dX9_outputAt_1 : decode cX9_outputAt 1 = .ok (.getfield 54, 3) := by decide +kernel
theorem dX9_outputAt_4 : decode cX9_outputAt 4 = .ok (.iload_n 1, 1) := by decide +kernel
theorem dX9_outputAt_5 : decode cX9_outputAt 5 = .ok (.invokevirtual 333, 3) := by decide +kernel
theorem dX9_outputAt_8 : decode cX9_outputAt 8 = .ok (.ifCond .ne 14, 3) := by decide +kernel
theorem dX9_outputAt_11 : decode cX9_outputAt 11 = .ok (.new 336, 3) := by decide +kernel
theorem dX9_outputAt_14 : decode cX9_outputAt 14 = .ok (.dup, 1) := by decide +kernel
theorem dX9_outputAt_15 : decode cX9_outputAt 15 = .ok (.ldc_w 338, 3) := by decide +kernel
theorem dX9_outputAt_18 : decode cX9_outputAt 18 = .ok (.invokespecial 340, 3) := by decide +kernel
theorem dX9_outputAt_21 : decode cX9_outputAt 21 = .ok (.athrow, 1) := by decide +kernel
theorem dX9_outputAt_22 : decode cX9_outputAt 22 = .ok (.aload_n 0, 1) := by decide +kernel
theorem dX9_outputAt_23 : decode cX9_outputAt 23 = .ok (.getfield 54, 3) := by decide +kernel
theorem dX9_outputAt_26 : decode cX9_outputAt 26 = .ok (.iload_n 1, 1) := by decide +kernel
theorem dX9_outputAt_27 : decode cX9_outputAt 27 = .ok (.invokevirtual 341, 3) := by decide +kernel
theorem dX9_outputAt_30 : decode cX9_outputAt 30 = .ok (.ireturn, 1) := by decide +kernel
set_option maxRecDepth 20000 in
theorem ggX9_rejectionReason_X9_requireRejection : GoodIn wsX9_rejectionReason wsX9_requireRejection := goodIn_ca (goodIn_r _ [6, 7, 8] (by decide +kernel) (by decide +kernel)) (goodIn_sub (fun _ h => List.mem_cons_of_mem _ (List.mem_append_right _ h)) (by decide +kernel))
set_option maxRecDepth 20000 in
theorem gX9_rejectionReason_X9_requireRejection : GoodIn wsX9_rejectionReason (va_wsS RX9 399 yX9_requireRejection wsX9_requireRejection) := goodIn_app (goodIn_of _ (by decide +kernel)) ggX9_rejectionReason_X9_requireRejection
theorem dX9_rejectionReason_0 : decode cX9_rejectionReason 0 = .ok (.aload_n 0, 1) := by decide +kernel
theorem dX9_rejectionReason_1 : decode cX9_rejectionReason 1 = .ok (.getfield 58, 3) := by decide +kernel
theorem dX9_rejectionReason_4 : decode cX9_rejectionReason 4 = .ok (.invokestatic 399, 3) := by decide +kernel
theorem dX9_rejectionReason_7 : decode cX9_rejectionReason 7 = .ok (.getfield 403, 3) := by decide +kernel
theorem dX9_rejectionReason_10 : decode cX9_rejectionReason 10 = .ok (.ireturn, 1) := by decide +kernel
theorem dX9_isStride_0 : decode cX9_isStride 0 = .ok (.iload_n 0, 1) := by decide +kernel
theorem dX9_isStride_1 : decode cX9_isStride 1 = .ok (.iconst 1, 1) := by decide +kernel
theorem dX9_isStride_2 : decode cX9_isStride 2 = .ok (.if_icmp .lt 13, 3) := by decide +kernel
theorem dX9_isStride_5 : decode cX9_isStride 5 = .ok (.iload_n 0, 1) := by decide +kernel
theorem dX9_isStride_6 : decode cX9_isStride 6 = .ok (.bipush 9, 2) := by decide +kernel
theorem dX9_isStride_8 : decode cX9_isStride 8 = .ok (.if_icmp .gt 7, 3) := by decide +kernel
theorem dX9_isStride_11 : decode cX9_isStride 11 = .ok (.iconst 1, 1) := by decide +kernel
theorem dX9_isStride_12 : decode cX9_isStride 12 = .ok (.goto 4, 3) := by decide +kernel
theorem dX9_isStride_15 : decode cX9_isStride 15 = .ok (.iconst 0, 1) := by decide +kernel
theorem dX9_isStride_16 : decode cX9_isStride 16 = .ok (.ireturn, 1) := by decide +kernel
theorem dX9_isTime_0 : decode cX9_isTime 0 = .ok (.iload_n 0, 1) := by decide +kernel
theorem dX9_isTime_1 : decode cX9_isTime 1 = .ok (.ifCond .lt 14, 3) := by decide +kernel
theorem dX9_isTime_4 : decode cX9_isTime 4 = .ok (.iload_n 0, 1) := by decide +kernel
theorem dX9_isTime_5 : decode cX9_isTime 5 = .ok (.sipush 999, 3) := by decide +kernel
theorem dX9_isTime_8 : decode cX9_isTime 8 = .ok (.if_icmp .gt 7, 3) := by decide +kernel
theorem dX9_isTime_11 : decode cX9_isTime 11 = .ok (.iconst 1, 1) := by decide +kernel
theorem dX9_isTime_12 : decode cX9_isTime 12 = .ok (.goto 4, 3) := by decide +kernel
theorem dX9_isTime_15 : decode cX9_isTime 15 = .ok (.iconst 0, 1) := by decide +kernel
theorem dX9_isTime_16 : decode cX9_isTime 16 = .ok (.ireturn, 1) := by decide +kernel
theorem dX9_isDepth_0 : decode cX9_isDepth 0 = .ok (.iload_n 0, 1) := by decide +kernel
theorem dX9_isDepth_1 : decode cX9_isDepth 1 = .ok (.iconst 1, 1) := by decide +kernel
theorem dX9_isDepth_2 : decode cX9_isDepth 2 = .ok (.if_icmp .lt 13, 3) := by decide +kernel
theorem dX9_isDepth_5 : decode cX9_isDepth 5 = .ok (.iload_n 0, 1) := by decide +kernel
theorem dX9_isDepth_6 : decode cX9_isDepth 6 = .ok (.bipush 9, 2) := by decide +kernel
theorem dX9_isDepth_8 : decode cX9_isDepth 8 = .ok (.if_icmp .gt 7, 3) := by decide +kernel
theorem dX9_isDepth_11 : decode cX9_isDepth 11 = .ok (.iconst 1, 1) := by decide +kernel
theorem dX9_isDepth_12 : decode cX9_isDepth 12 = .ok (.goto 4, 3) := by decide +kernel
theorem dX9_isDepth_15 : decode cX9_isDepth 15 = .ok (.iconst 0, 1) := by decide +kernel
theorem dX9_isDepth_16 : decode cX9_isDepth 16 = .ok (.ireturn, 1) := by decide +kernel
theorem dX9_isLevel_0 : decode cX9_isLevel 0 = .ok (.iload_n 0, 1) := by decide +kernel
theorem dX9_isLevel_1 : decode cX9_isLevel 1 = .ok (.ifCond .lt 13, 3) := by decide +kernel
theorem dX9_isLevel_4 : decode cX9_isLevel 4 = .ok (.iload_n 0, 1) := by decide +kernel
theorem dX9_isLevel_5 : decode cX9_isLevel 5 = .ok (.bipush 8, 2) := by decide +kernel
theorem dX9_isLevel_7 : decode cX9_isLevel 7 = .ok (.if_icmp .gt 7, 3) := by decide +kernel
theorem dX9_isLevel_10 : decode cX9_isLevel 10 = .ok (.iconst 1, 1) := by decide +kernel
theorem dX9_isLevel_11 : decode cX9_isLevel 11 = .ok (.goto 4, 3) := by decide +kernel
theorem dX9_isLevel_14 : decode cX9_isLevel 14 = .ok (.iconst 0, 1) := by decide +kernel
theorem dX9_isLevel_15 : decode cX9_isLevel 15 = .ok (.ireturn, 1) := by decide +kernel
theorem dX9_isRow_0 : decode cX9_isRow 0 = .ok (.iload_n 0, 1) := by decide +kernel
theorem dX9_isRow_1 : decode cX9_isRow 1 = .ok (.ifCond .lt 13, 3) := by decide +kernel
theorem dX9_isRow_4 : decode cX9_isRow 4 = .ok (.iload_n 0, 1) := by decide +kernel
theorem dX9_isRow_5 : decode cX9_isRow 5 = .ok (.bipush 10, 2) := by decide +kernel
theorem dX9_isRow_7 : decode cX9_isRow 7 = .ok (.if_icmp .ge 7, 3) := by decide +kernel
theorem dX9_isRow_10 : decode cX9_isRow 10 = .ok (.iconst 1, 1) := by decide +kernel
theorem dX9_isRow_11 : decode cX9_isRow 11 = .ok (.goto 4, 3) := by decide +kernel
theorem dX9_isRow_14 : decode cX9_isRow 14 = .ok (.iconst 0, 1) := by decide +kernel
theorem dX9_isRow_15 : decode cX9_isRow 15 = .ok (.ireturn, 1) := by decide +kernel
set_option maxRecDepth 20000 in
theorem ggX9_isCell_X9_isRow : GoodIn wsX9_isCell wsX9_isRow := goodIn_r _ [4] (by decide +kernel) (by decide +kernel)
set_option maxRecDepth 20000 in
theorem gX9_isCell_X9_isRow : GoodIn wsX9_isCell (va_wsS RX9 421 yX9_isRow wsX9_isRow) := goodIn_app (goodIn_of _ (by decide +kernel)) ggX9_isCell_X9_isRow
theorem dX9_isCell_0 : decode cX9_isCell 0 = .ok (.iload_n 0, 1) := by decide +kernel
theorem dX9_isCell_1 : decode cX9_isCell 1 = .ok (.invokestatic 421, 3) := by decide +kernel
theorem dX9_isCell_4 : decode cX9_isCell 4 = .ok (.ifCond .eq 17, 3) := by decide +kernel
theorem dX9_isCell_7 : decode cX9_isCell 7 = .ok (.iload_n 1, 1) := by decide +kernel
theorem dX9_isCell_8 : decode cX9_isCell 8 = .ok (.ifCond .lt 13, 3) := by decide +kernel
theorem dX9_isCell_11 : decode cX9_isCell 11 = .ok (.iload_n 1, 1) := by decide +kernel
theorem dX9_isCell_12 : decode cX9_isCell 12 = .ok (.bipush 20, 2) := by decide +kernel
theorem dX9_isCell_14 : decode cX9_isCell 14 = .ok (.if_icmp .ge 7, 3) := by decide +kernel
theorem dX9_isCell_17 : decode cX9_isCell 17 = .ok (.iconst 1, 1) := by decide +kernel
theorem dX9_isCell_18 : decode cX9_isCell 18 = .ok (.goto 4, 3) := by decide +kernel
theorem dX9_isCell_21 : decode cX9_isCell 21 = .ok (.iconst 0, 1) := by decide +kernel
theorem dX9_isCell_22 : decode cX9_isCell 22 = .ok (.ireturn, 1) := by decide +kernel
set_option maxRecDepth 20000 in
theorem ggX9_requireTrack_X0_findTrack : GoodIn wsX9_requireTrack wsX0_findTrack := goodIn_r _ [8, 9, 10, 11, 22, 23, 24, 25, 26, 27, 28, 29, 30, 31] (by decide +kernel) (by decide +kernel)
set_option maxRecDepth 20000 in
theorem gX9_requireTrack_X0_findTrack : GoodIn wsX9_requireTrack (wsV RX9 424 RX0 yX0_findTrack wsX0_findTrack) := goodIn_app (goodIn_of _ (by decide +kernel)) ggX9_requireTrack_X0_findTrack
theorem dX9_requireTrack_0 : decode cX9_requireTrack 0 = .ok (.aload_n 0, 1) := by decide +kernel
theorem dX9_requireTrack_1 : decode cX9_requireTrack 1 = .ok (.getfield 12, 3) := by decide +kernel
theorem dX9_requireTrack_4 : decode cX9_requireTrack 4 = .ok (.iload_n 1, 1) := by decide +kernel
theorem dX9_requireTrack_5 : decode cX9_requireTrack 5 = .ok (.invokevirtual 424, 3) := by decide +kernel
theorem dX9_requireTrack_8 : decode cX9_requireTrack 8 = .ok (.astore_n 2, 1) := by decide +kernel
theorem dX9_requireTrack_9 : decode cX9_requireTrack 9 = .ok (.aload_n 2, 1) := by decide +kernel
theorem dX9_requireTrack_10 : decode cX9_requireTrack 10 = .ok (.ifnonnull 14, 3) := by decide +kernel
theorem dX9_requireTrack_13 : decode cX9_requireTrack 13 = .ok (.new 336, 3) := by decide +kernel
theorem dX9_requireTrack_16 : decode cX9_requireTrack 16 = .ok (.dup, 1) := by decide +kernel
theorem dX9_requireTrack_17 : decode cX9_requireTrack 17 = .ok (.ldc_w 427, 3) := by decide +kernel
theorem dX9_requireTrack_20 : decode cX9_requireTrack 20 = .ok (.invokespecial 340, 3) := by decide +kernel
theorem dX9_requireTrack_23 : decode cX9_requireTrack 23 = .ok (.athrow, 1) := by decide +kernel
theorem dX9_requireTrack_24 : decode cX9_requireTrack 24 = .ok (.aload_n 2, 1) := by decide +kernel
theorem dX9_requireTrack_25 : decode cX9_requireTrack 25 = .ok (.areturn, 1) := by decide +kernel
set_option maxRecDepth 20000 in
theorem ggX9_requirePrint_X0_findPrint : GoodIn wsX9_requirePrint wsX0_findPrint := goodIn_r _ [8, 9, 10, 11, 22, 23, 24, 25, 26, 27, 28, 29, 30, 31, 32, 33, 34, 35, 36, 37, 38] (by decide +kernel) (by decide +kernel)
set_option maxRecDepth 20000 in
theorem gX9_requirePrint_X0_findPrint : GoodIn wsX9_requirePrint (wsV RX9 429 RX0 yX0_findPrint wsX0_findPrint) := goodIn_app (goodIn_of _ (by decide +kernel)) ggX9_requirePrint_X0_findPrint
theorem dX9_requirePrint_0 : decode cX9_requirePrint 0 = .ok (.aload_n 0, 1) := by decide +kernel
theorem dX9_requirePrint_1 : decode cX9_requirePrint 1 = .ok (.getfield 12, 3) := by decide +kernel
theorem dX9_requirePrint_4 : decode cX9_requirePrint 4 = .ok (.iload_n 1, 1) := by decide +kernel
theorem dX9_requirePrint_5 : decode cX9_requirePrint 5 = .ok (.invokevirtual 429, 3) := by decide +kernel
theorem dX9_requirePrint_8 : decode cX9_requirePrint 8 = .ok (.astore_n 2, 1) := by decide +kernel
theorem dX9_requirePrint_9 : decode cX9_requirePrint 9 = .ok (.aload_n 2, 1) := by decide +kernel
theorem dX9_requirePrint_10 : decode cX9_requirePrint 10 = .ok (.ifnonnull 14, 3) := by decide +kernel
theorem dX9_requirePrint_13 : decode cX9_requirePrint 13 = .ok (.new 336, 3) := by decide +kernel
theorem dX9_requirePrint_16 : decode cX9_requirePrint 16 = .ok (.dup, 1) := by decide +kernel
theorem dX9_requirePrint_17 : decode cX9_requirePrint 17 = .ok (.ldc_w 432, 3) := by decide +kernel
theorem dX9_requirePrint_20 : decode cX9_requirePrint 20 = .ok (.invokespecial 340, 3) := by decide +kernel
theorem dX9_requirePrint_23 : decode cX9_requirePrint 23 = .ok (.athrow, 1) := by decide +kernel
theorem dX9_requirePrint_24 : decode cX9_requirePrint 24 = .ok (.aload_n 2, 1) := by decide +kernel
theorem dX9_requirePrint_25 : decode cX9_requirePrint 25 = .ok (.areturn, 1) := by decide +kernel
set_option maxRecDepth 20000 in
theorem ggX9_requireCell_X9_isCell : GoodIn wsX9_requireCell wsX9_isCell := goodIn_r _ [6, 7, 8, 5, 9] (by decide +kernel) (by decide +kernel)
set_option maxRecDepth 20000 in
theorem gX9_requireCell_X9_isCell : GoodIn wsX9_requireCell (va_wsS RX9 434 yX9_isCell wsX9_isCell) := goodIn_app (goodIn_of _ (by decide +kernel)) ggX9_requireCell_X9_isCell
theorem dX9_requireCell_0 : decode cX9_requireCell 0 = .ok (.iload_n 0, 1) := by decide +kernel
theorem dX9_requireCell_1 : decode cX9_requireCell 1 = .ok (.iload_n 1, 1) := by decide +kernel
theorem dX9_requireCell_2 : decode cX9_requireCell 2 = .ok (.invokestatic 434, 3) := by decide +kernel
theorem dX9_requireCell_5 : decode cX9_requireCell 5 = .ok (.ifCond .ne 14, 3) := by decide +kernel
theorem dX9_requireCell_8 : decode cX9_requireCell 8 = .ok (.new 336, 3) := by decide +kernel
theorem dX9_requireCell_11 : decode cX9_requireCell 11 = .ok (.dup, 1) := by decide +kernel
theorem dX9_requireCell_12 : decode cX9_requireCell 12 = .ok (.ldc_w 438, 3) := by decide +kernel
theorem dX9_requireCell_15 : decode cX9_requireCell 15 = .ok (.invokespecial 340, 3) := by decide +kernel
theorem dX9_requireCell_18 : decode cX9_requireCell 18 = .ok (.athrow, 1) := by decide +kernel
theorem dX9_requireCell_19 : decode cX9_requireCell 19 = .ok (.return_, 1) := by decide +kernel
set_option maxRecDepth 20000 in
theorem ggX9_requireRow_X9_isRow : GoodIn wsX9_requireRow wsX9_isRow := goodIn_r _ [6] (by decide +kernel) (by decide +kernel)
set_option maxRecDepth 20000 in
theorem gX9_requireRow_X9_isRow : GoodIn wsX9_requireRow (va_wsS RX9 421 yX9_isRow wsX9_isRow) := goodIn_app (goodIn_of _ (by decide +kernel)) ggX9_requireRow_X9_isRow
theorem dX9_requireRow_0 : decode cX9_requireRow 0 = .ok (.iload_n 0, 1) := by decide +kernel
theorem dX9_requireRow_1 : decode cX9_requireRow 1 = .ok (.invokestatic 421, 3) := by decide +kernel
theorem dX9_requireRow_4 : decode cX9_requireRow 4 = .ok (.ifCond .ne 14, 3) := by decide +kernel
theorem dX9_requireRow_7 : decode cX9_requireRow 7 = .ok (.new 336, 3) := by decide +kernel
theorem dX9_requireRow_10 : decode cX9_requireRow 10 = .ok (.dup, 1) := by decide +kernel
theorem dX9_requireRow_11 : decode cX9_requireRow 11 = .ok (.ldc_w 440, 3) := by decide +kernel
theorem dX9_requireRow_14 : decode cX9_requireRow 14 = .ok (.invokespecial 340, 3) := by decide +kernel
theorem dX9_requireRow_17 : decode cX9_requireRow 17 = .ok (.athrow, 1) := by decide +kernel
theorem dX9_requireRow_18 : decode cX9_requireRow 18 = .ok (.return_, 1) := by decide +kernel
set_option maxRecDepth 20000 in
theorem ggX9_requireLevel_X9_isLevel : GoodIn wsX9_requireLevel wsX9_isLevel := goodIn_r _ [6] (by decide +kernel) (by decide +kernel)
set_option maxRecDepth 20000 in
theorem gX9_requireLevel_X9_isLevel : GoodIn wsX9_requireLevel (va_wsS RX9 442 yX9_isLevel wsX9_isLevel) := goodIn_app (goodIn_of _ (by decide +kernel)) ggX9_requireLevel_X9_isLevel
theorem dX9_requireLevel_0 : decode cX9_requireLevel 0 = .ok (.iload_n 0, 1) := by decide +kernel
theorem dX9_requireLevel_1 : decode cX9_requireLevel 1 = .ok (.invokestatic 442, 3) := by decide +kernel
theorem dX9_requireLevel_4 : decode cX9_requireLevel 4 = .ok (.ifCond .ne 14, 3) := by decide +kernel
theorem dX9_requireLevel_7 : decode cX9_requireLevel 7 = .ok (.new 70, 3) := by decide +kernel
theorem dX9_requireLevel_10 : decode cX9_requireLevel 10 = .ok (.dup, 1) := by decide +kernel
theorem dX9_requireLevel_11 : decode cX9_requireLevel 11 = .ok (.ldc_w 445, 3) := by decide +kernel
theorem dX9_requireLevel_14 : decode cX9_requireLevel 14 = .ok (.invokespecial 74, 3) := by decide +kernel
theorem dX9_requireLevel_17 : decode cX9_requireLevel 17 = .ok (.athrow, 1) := by decide +kernel
theorem dX9_requireLevel_18 : decode cX9_requireLevel 18 = .ok (.return_, 1) := by decide +kernel
theorem dX9_requireFound_0 : decode cX9_requireFound 0 = .ok (.aload_n 0, 1) := by decide +kernel
theorem dX9_requireFound_1 : decode cX9_requireFound 1 = .ok (.ifnonnull 14, 3) := by decide +kernel
theorem dX9_requireFound_4 : decode cX9_requireFound 4 = .ok (.new 265, 3) := by decide +kernel
theorem dX9_requireFound_7 : decode cX9_requireFound 7 = .ok (.dup, 1) := by decide +kernel
theorem dX9_requireFound_8 : decode cX9_requireFound 8 = .ok (.ldc_w 447, 3) := by decide +kernel
theorem dX9_requireFound_11 : decode cX9_requireFound 11 = .ok (.invokespecial 269, 3) := by decide +kernel
theorem dX9_requireFound_14 : decode cX9_requireFound 14 = .ok (.athrow, 1) := by decide +kernel
theorem dX9_requireFound_15 : decode cX9_requireFound 15 = .ok (.aload_n 0, 1) := by decide +kernel
theorem dX9_requireFound_16 : decode cX9_requireFound 16 = .ok (.areturn, 1) := by decide +kernel
theorem dX9_requireRejection_0 : decode cX9_requireRejection 0 = .ok (.aload_n 0, 1) := by decide +kernel
theorem dX9_requireRejection_1 : decode cX9_requireRejection 1 = .ok (.ifnonnull 14, 3) := by decide +kernel
theorem dX9_requireRejection_4 : decode cX9_requireRejection 4 = .ok (.new 265, 3) := by decide +kernel
theorem dX9_requireRejection_7 : decode cX9_requireRejection 7 = .ok (.dup, 1) := by decide +kernel
theorem dX9_requireRejection_8 : decode cX9_requireRejection 8 = .ok (.ldc_w 449, 3) := by decide +kernel
theorem dX9_requireRejection_11 : decode cX9_requireRejection 11 = .ok (.invokespecial 269, 3) := by decide +kernel
theorem dX9_requireRejection_14 : decode cX9_requireRejection 14 = .ok (.athrow, 1) := by decide +kernel
theorem dX9_requireRejection_15 : decode cX9_requireRejection 15 = .ok (.aload_n 0, 1) := by decide +kernel
theorem dX9_requireRejection_16 : decode cX9_requireRejection 16 = .ok (.areturn, 1) := by decide +kernel
theorem dX9_rejectFor_0 : decode cX9_rejectFor 0 = .ok (.aload_n 1, 1) := by decide +kernel
theorem dX9_rejectFor_1 : decode cX9_rejectFor 1 = .ok (.ifnull 19, 3) := by decide +kernel
theorem dX9_rejectFor_4 : decode cX9_rejectFor 4 = .ok (.aload_n 0, 1) := by decide +kernel
theorem dX9_rejectFor_5 : decode cX9_rejectFor 5 = .ok (.aload_n 1, 1) := by decide +kernel
theorem dX9_rejectFor_6 : decode cX9_rejectFor 6 = .ok (.putfield 58, 3) := by decide +kernel
theorem dX9_rejectFor_9 : decode cX9_rejectFor 9 = .ok (.new 451, 3) := by decide +kernel
theorem dX9_rejectFor_12 : decode cX9_rejectFor 12 = .ok (.dup, 1) := by decide +kernel
theorem dX9_rejectFor_13 : decode cX9_rejectFor 13 = .ok (.ldc_w 453, 3) := by decide +kernel
theorem dX9_rejectFor_16 : decode cX9_rejectFor 16 = .ok (.invokespecial 455, 3) := by decide +kernel
theorem dX9_rejectFor_19 : decode cX9_rejectFor 19 = .ok (.athrow, 1) := by decide +kernel
theorem dX9_rejectFor_20 : decode cX9_rejectFor 20 = .ok (.return_, 1) := by decide +kernel
