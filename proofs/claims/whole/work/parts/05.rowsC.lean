set_option maxRecDepth 20000 in
theorem ggX9_init_X0_init : GoodIn wsX9_init wsX0_init := goodIn_r _ [32, 33, 2, 3, 34, 35, 36, 37, 38, 39, 40, 41, 42, 43, 44, 45, 46, 47, 79, 80, 81, 82, 83, 84, 85, 106, 107, 108, 109, 110, 111, 112, 113, 114, 115, 116, 117, 118] (by decide +kernel) (by decide +kernel)
set_option maxRecDepth 20000 in
theorem gX9_init_X0_init : GoodIn wsX9_init (wsX0_init) := ggX9_init_X0_init
set_option maxRecDepth 20000 in
theorem ggX9_init_X4_init : GoodIn wsX9_init wsX4_init := goodIn_r _ [50, 51, 2, 3, 52, 96] (by decide +kernel) (by decide +kernel)
set_option maxRecDepth 20000 in
theorem gX9_init_X4_init : GoodIn wsX9_init (wsX4_init) := ggX9_init_X4_init
set_option maxRecDepth 20000 in
theorem ggX9_init_X2_init : GoodIn wsX9_init wsX2_init := goodIn_r _ [55, 56, 2, 3, 57, 58, 5, 6, 59, 31, 32, 33, 34, 35, 36, 37, 38, 39, 40, 41, 42, 43, 44, 45, 46, 47, 97, 98, 79, 80, 81, 82, 83, 84, 85, 106, 107, 108, 109, 110, 111, 112, 113, 114, 115, 116, 117, 118] (by decide +kernel) (by decide +kernel)
set_option maxRecDepth 20000 in
theorem gX9_init_X2_init : GoodIn wsX9_init (wsX2_init) := ggX9_init_X2_init
set_option maxRecDepth 20000 in
theorem ggX9_init_X6_init : GoodIn wsX9_init wsX6_init := goodIn_r _ [62, 63, 2, 3, 64, 24, 25, 26, 65, 66, 67, 68, 69, 70, 71, 72, 73, 74, 75, 76, 77, 104, 105, 99, 100, 101, 102, 103, 119, 120, 121, 122, 123, 124, 125] (by decide +kernel) (by decide +kernel)
set_option maxRecDepth 20000 in
theorem gX9_init_X6_init : GoodIn wsX9_init (wsX6_init) := ggX9_init_X6_init
set_option maxRecDepth 20000 in
theorem ggX9_init_X7_init : GoodIn wsX9_init wsX7_init := goodIn_r _ [72, 73, 2, 3, 74, 104, 105] (by decide +kernel) (by decide +kernel)
set_option maxRecDepth 20000 in
theorem gX9_init_X7_init : GoodIn wsX9_init (wsX7_init) := ggX9_init_X7_init
theorem dX9_init_0 : decode cX9_init 0 = .ok (.aload_n 0, 1) := by decide +kernel
theorem dX9_init_1 : decode cX9_init 1 = .ok (.invokespecial 3, 3) := by decide +kernel
theorem dX9_init_4 : decode cX9_init 4 = .ok (.aload_n 0, 1) := by decide +kernel
theorem dX9_init_5 : decode cX9_init 5 = .ok (.new 9, 3) := by decide +kernel
theorem dX9_init_8 : decode cX9_init 8 = .ok (.dup, 1) := by decide +kernel
theorem dX9_init_9 : decode cX9_init 9 = .ok (.invokespecial 11, 3) := by decide +kernel
theorem dX9_init_12 : decode cX9_init 12 = .ok (.putfield 12, 3) := by decide +kernel
theorem dX9_init_15 : decode cX9_init 15 = .ok (.aload_n 0, 1) := by decide +kernel
theorem dX9_init_16 : decode cX9_init 16 = .ok (.new 16, 3) := by decide +kernel
theorem dX9_init_19 : decode cX9_init 19 = .ok (.dup, 1) := by decide +kernel
theorem dX9_init_20 : decode cX9_init 20 = .ok (.aload_n 0, 1) := by decide +kernel
theorem dX9_init_21 : decode cX9_init 21 = .ok (.getfield 12, 3) := by decide +kernel
theorem dX9_init_24 : decode cX9_init 24 = .ok (.invokespecial 18, 3) := by decide +kernel
theorem dX9_init_27 : decode cX9_init 27 = .ok (.putfield 21, 3) := by decide +kernel
theorem dX9_init_30 : decode cX9_init 30 = .ok (.aload_n 0, 1) := by decide +kernel
theorem dX9_init_31 : decode cX9_init 31 = .ok (.new 25, 3) := by decide +kernel
theorem dX9_init_34 : decode cX9_init 34 = .ok (.dup, 1) := by decide +kernel
theorem dX9_init_35 : decode cX9_init 35 = .ok (.invokespecial 27, 3) := by decide +kernel
theorem dX9_init_38 : decode cX9_init 38 = .ok (.putfield 28, 3) := by decide +kernel
theorem dX9_init_41 : decode cX9_init 41 = .ok (.aload_n 0, 1) := by decide +kernel
theorem dX9_init_42 : decode cX9_init 42 = .ok (.new 9, 3) := by decide +kernel
theorem dX9_init_45 : decode cX9_init 45 = .ok (.dup, 1) := by decide +kernel
theorem dX9_init_46 : decode cX9_init 46 = .ok (.invokespecial 11, 3) := by decide +kernel
theorem dX9_init_49 : decode cX9_init 49 = .ok (.putfield 32, 3) := by decide +kernel
theorem dX9_init_52 : decode cX9_init 52 = .ok (.aload_n 0, 1) := by decide +kernel
theorem dX9_init_53 : decode cX9_init 53 = .ok (.new 9, 3) := by decide +kernel
theorem dX9_init_56 : decode cX9_init 56 = .ok (.dup, 1) := by decide +kernel
theorem dX9_init_57 : decode cX9_init 57 = .ok (.invokespecial 11, 3) := by decide +kernel
theorem dX9_init_60 : decode cX9_init 60 = .ok (.putfield 35, 3) := by decide +kernel
theorem dX9_init_63 : decode cX9_init 63 = .ok (.aload_n 0, 1) := by decide +kernel
theorem dX9_init_64 : decode cX9_init 64 = .ok (.iconst 0, 1) := by decide +kernel
theorem dX9_init_65 : decode cX9_init 65 = .ok (.putfield 38, 3) := by decide +kernel
theorem dX9_init_68 : decode cX9_init 68 = .ok (.aload_n 0, 1) := by decide +kernel
theorem dX9_init_69 : decode cX9_init 69 = .ok (.new 42, 3) := by decide +kernel
theorem dX9_init_72 : decode cX9_init 72 = .ok (.dup, 1) := by decide +kernel
theorem dX9_init_73 : decode cX9_init 73 = .ok (.invokespecial 44, 3) := by decide +kernel
theorem dX9_init_76 : decode cX9_init 76 = .ok (.putfield 45, 3) := by decide +kernel
theorem dX9_init_79 : decode cX9_init 79 = .ok (.aload_n 0, 1) := by decide +kernel
theorem dX9_init_80 : decode cX9_init 80 = .ok (.new 49, 3) := by decide +kernel
theorem dX9_init_83 : decode cX9_init 83 = .ok (.dup, 1) := by decide +kernel
theorem dX9_init_84 : decode cX9_init 84 = .ok (.bipush 90, 2) := by decide +kernel
theorem dX9_init_86 : decode cX9_init 86 = .ok (.newarray .char, 2) := by decide +kernel
theorem dX9_init_88 : decode cX9_init 88 = .ok (.invokespecial 51, 3) := by decide +kernel
theorem dX9_init_91 : decode cX9_init 91 = .ok (.putfield 54, 3) := by decide +kernel
theorem dX9_init_94 : decode cX9_init 94 = .ok (.aload_n 0, 1) := by decide +kernel
theorem dX9_init_95 : decode cX9_init 95 = .ok (.aconst_null, 1) := by decide +kernel
theorem dX9_init_96 : decode cX9_init 96 = .ok (.putfield 58, 3) := by decide +kernel
theorem dX9_init_99 : decode cX9_init 99 = .ok (.aload_n 0, 1) := by decide +kernel
theorem dX9_init_100 : decode cX9_init 100 = .ok (.iconst (-1), 1) := by decide +kernel
theorem dX9_init_101 : decode cX9_init 101 = .ok (.putfield 62, 3) := by decide +kernel
theorem dX9_init_104 : decode cX9_init 104 = .ok (.return_, 1) := by decide +kernel
set_option maxRecDepth 20000 in
theorem ggX9_addTrack_X9_isStride : GoodIn wsX9_addTrack wsX9_isStride := goodIn_r _ [8] (by decide +kernel) (by decide +kernel)
set_option maxRecDepth 20000 in
theorem gX9_addTrack_X9_isStride : GoodIn wsX9_addTrack (va_wsS RX9 66 yX9_isStride wsX9_isStride) := goodIn_app (goodIn_of _ (by decide +kernel)) ggX9_addTrack_X9_isStride
set_option maxRecDepth 20000 in
theorem ggX9_addTrack_X0_objectionToTrack : GoodIn wsX9_addTrack wsX0_objectionToTrack := goodIn_r _ [13, 14, 15, 16, 17, 18, 19, 12, 20, 21, 22, 23, 24, 25, 26, 27, 28, 29, 30, 31, 99, 100, 101, 102, 103, 104, 105, 106, 107, 108, 109, 110, 111] (by decide +kernel) (by decide +kernel)
set_option maxRecDepth 20000 in
theorem gX9_addTrack_X0_objectionToTrack : GoodIn wsX9_addTrack (wsV RX9 77 RX0 yX0_objectionToTrack wsX0_objectionToTrack) := goodIn_app (goodIn_of _ (by decide +kernel)) ggX9_addTrack_X0_objectionToTrack
set_option maxRecDepth 20000 in
theorem ggX9_addTrack_X9_rejectFor : GoodIn wsX9_addTrack wsX9_rejectFor := goodIn_ca (goodIn_r _ [35, 36, 37, 38, 89, 90, 91, 92, 93, 94, 95, 96, 97, 98] (by decide +kernel) (by decide +kernel)) (goodIn_sub (fun _ h => List.mem_cons_of_mem _ (List.mem_append_right _ h)) (by decide +kernel))
set_option maxRecDepth 20000 in
theorem gX9_addTrack_X9_rejectFor : GoodIn wsX9_addTrack (wsV RX9 81 RX9 yX9_rejectFor wsX9_rejectFor) := goodIn_app (goodIn_of _ (by decide +kernel)) ggX9_addTrack_X9_rejectFor
set_option maxRecDepth 20000 in
theorem ggX9_addTrack_X2_push : GoodIn wsX9_addTrack wsX2_push := goodIn_r _ [43, 44, 45, 46, 47, 48, 49, 50, 51, 52, 12, 53, 21, 54, 55, 56, 57, 58, 59, 60, 61, 62, 63, 64, 65, 66, 67, 68, 69, 70, 71, 72, 73, 74, 75, 76, 77, 78, 79, 80, 81, 82, 112, 113, 102, 103, 104, 105, 106, 107, 108, 109, 110, 111, 114, 115, 116, 117, 118, 119, 120, 121, 122, 123] (by decide +kernel) (by decide +kernel)
set_option maxRecDepth 20000 in
theorem gX9_addTrack_X2_push : GoodIn wsX9_addTrack (wsV RX9 85 RX2 yX2_push wsX2_push) := goodIn_app (goodIn_of _ (by decide +kernel)) ggX9_addTrack_X2_push
set_option maxRecDepth 20000 in
theorem ggX9_addTrack_X0_putTrack : GoodIn wsX9_addTrack wsX0_putTrack := goodIn_r _ [86, 21, 22, 56, 87, 88, 102, 103, 104, 105, 106, 107, 108, 109, 110, 111] (by decide +kernel) (by decide +kernel)
set_option maxRecDepth 20000 in
theorem gX9_addTrack_X0_putTrack : GoodIn wsX9_addTrack (wsV RX9 88 RX0 yX0_putTrack wsX0_putTrack) := goodIn_app (goodIn_of _ (by decide +kernel)) ggX9_addTrack_X0_putTrack
theorem dX9_addTrack_0 : decode cX9_addTrack 0 = .ok (.iload_n 1, 1) := by decide +kernel
theorem dX9_addTrack_1 : decode cX9_addTrack 1 = .ok (.invokestatic 66, 3) := by decide +kernel
theorem dX9_addTrack_4 : decode cX9_addTrack 4 = .ok (.ifCond .ne 13, 3) := by decide +kernel
theorem dX9_addTrack_7 : decode cX9_addTrack 7 = .ok (.new 70, 3) := by decide +kernel
theorem dX9_addTrack_10 : decode cX9_addTrack 10 = .ok (.dup, 1) := by decide +kernel
theorem dX9_addTrack_11 : decode cX9_addTrack 11 = .ok (.ldc 72, 2) := by decide +kernel
theorem dX9_addTrack_13 : decode cX9_addTrack 13 = .ok (.invokespecial 74, 3) := by decide +kernel
theorem dX9_addTrack_16 : decode cX9_addTrack 16 = .ok (.athrow, 1) := by decide +kernel
theorem dX9_addTrack_17 : decode cX9_addTrack 17 = .ok (.aload_n 0, 1) := by decide +kernel
theorem dX9_addTrack_18 : decode cX9_addTrack 18 = .ok (.aload_n 0, 1) := by decide +kernel
theorem dX9_addTrack_19 : decode cX9_addTrack 19 = .ok (.getfield 12, 3) := by decide +kernel
theorem dX9_addTrack_22 : decode cX9_addTrack 22 = .ok (.invokevirtual 77, 3) := by decide +kernel
theorem dX9_addTrack_25 : decode cX9_addTrack 25 = .ok (.invokevirtual 81, 3) := by decide +kernel
theorem dX9_addTrack_28 : decode cX9_addTrack 28 = .ok (.aload_n 0, 1) := by decide +kernel
theorem dX9_addTrack_29 : decode cX9_addTrack 29 = .ok (.getfield 28, 3) := by decide +kernel
theorem dX9_addTrack_32 : decode cX9_addTrack 32 = .ok (.aload_n 0, 1) := by decide +kernel
theorem dX9_addTrack_33 : decode cX9_addTrack 33 = .ok (.getfield 12, 3) := by decide +kernel
theorem dX9_addTrack_36 : decode cX9_addTrack 36 = .ok (.invokevirtual 85, 3) := by decide +kernel
theorem dX9_addTrack_39 : decode cX9_addTrack 39 = .ok (.aload_n 0, 1) := by decide +kernel
theorem dX9_addTrack_40 : decode cX9_addTrack 40 = .ok (.getfield 12, 3) := by decide +kernel
theorem dX9_addTrack_43 : decode cX9_addTrack 43 = .ok (.iload_n 1, 1) := by decide +kernel
theorem dX9_addTrack_44 : decode cX9_addTrack 44 = .ok (.invokevirtual 88, 3) := by decide +kernel
theorem dX9_addTrack_47 : decode cX9_addTrack 47 = .ok (.ireturn, 1) := by decide +kernel
set_option maxRecDepth 20000 in
theorem ggX9_removeTrack_X9_requireTrack : GoodIn wsX9_removeTrack wsX9_requireTrack := goodIn_ca (goodIn_r _ [7, 8, 9, 2, 10, 11, 12, 13, 14, 15, 16, 17, 71, 72, 73, 74, 75, 76, 77, 78, 79, 80, 81, 82, 83, 84, 85, 86, 87, 88, 89, 90] (by decide +kernel) (by decide +kernel)) (goodIn_sub (fun _ h => List.mem_cons_of_mem _ (List.mem_append_right _ h)) (by decide +kernel))
set_option maxRecDepth 20000 in
theorem gX9_removeTrack_X9_requireTrack : GoodIn wsX9_removeTrack (wsV RX9 92 RX9 yX9_requireTrack wsX9_requireTrack) := goodIn_app (goodIn_of _ (by decide +kernel)) ggX9_removeTrack_X9_requireTrack
set_option maxRecDepth 20000 in
theorem ggX9_removeTrack_X2_push : GoodIn wsX9_removeTrack wsX2_push := goodIn_r _ [22, 23, 24, 25, 26, 27, 28, 29, 30, 31, 13, 32, 15, 33, 34, 35, 36, 37, 38, 39, 40, 41, 42, 43, 44, 45, 46, 47, 48, 49, 50, 51, 52, 53, 54, 55, 56, 57, 58, 59, 60, 61, 91, 92, 81, 82, 83, 84, 85, 86, 87, 88, 89, 90, 93, 94, 95, 96, 97, 98, 99, 100, 101, 102] (by decide +kernel) (by decide +kernel)
set_option maxRecDepth 20000 in
theorem gX9_removeTrack_X2_push : GoodIn wsX9_removeTrack (wsV RX9 85 RX2 yX2_push wsX2_push) := goodIn_app (goodIn_of _ (by decide +kernel)) ggX9_removeTrack_X2_push
set_option maxRecDepth 20000 in
theorem ggX9_removeTrack_X0_dropTrack : GoodIn wsX9_removeTrack wsX0_dropTrack := goodIn_r _ [65, 33, 17, 66, 16, 67, 68, 69, 50, 70, 52, 54, 81, 82, 83, 84, 85, 86, 87, 88, 89, 90, 93, 94, 95, 96, 97, 98, 99, 100, 101, 102] (by decide +kernel) (by decide +kernel)
set_option maxRecDepth 20000 in
theorem gX9_removeTrack_X0_dropTrack : GoodIn wsX9_removeTrack (wsV RX9 96 RX0 yX0_dropTrack wsX0_dropTrack) := goodIn_app (goodIn_of _ (by decide +kernel)) ggX9_removeTrack_X0_dropTrack
theorem dX9_removeTrack_0 : decode cX9_removeTrack 0 = .ok (.aload_n 0, 1) := by decide +kernel
theorem dX9_removeTrack_1 : decode cX9_removeTrack 1 = .ok (.iload_n 1, 1) := by decide +kernel
theorem dX9_removeTrack_2 : decode cX9_removeTrack 2 = .ok (.invokevirtual 92, 3) := by decide +kernel
theorem dX9_removeTrack_5 : decode cX9_removeTrack 5 = .ok (.astore_n 2, 1) := by decide +kernel
theorem dX9_removeTrack_6 : decode cX9_removeTrack 6 = .ok (.aload_n 0, 1) := by decide +kernel
theorem dX9_removeTrack_7 : decode cX9_removeTrack 7 = .ok (.getfield 28, 3) := by decide +kernel
theorem dX9_removeTrack_10 : decode cX9_removeTrack 10 = .ok (.aload_n 0, 1) := by decide +kernel
theorem dX9_removeTrack_11 : decode cX9_removeTrack 11 = .ok (.getfield 12, 3) := by decide +kernel
theorem dX9_removeTrack_14 : decode cX9_removeTrack 14 = .ok (.invokevirtual 85, 3) := by decide +kernel
theorem dX9_removeTrack_17 : decode cX9_removeTrack 17 = .ok (.aload_n 0, 1) := by decide +kernel
theorem dX9_removeTrack_18 : decode cX9_removeTrack 18 = .ok (.getfield 12, 3) := by decide +kernel
theorem dX9_removeTrack_21 : decode cX9_removeTrack 21 = .ok (.aload_n 2, 1) := by decide +kernel
theorem dX9_removeTrack_22 : decode cX9_removeTrack 22 = .ok (.invokevirtual 96, 3) := by decide +kernel
theorem dX9_removeTrack_25 : decode cX9_removeTrack 25 = .ok (.ireturn, 1) := by decide +kernel
set_option maxRecDepth 20000 in
theorem ggX9_addPrint_X9_requireTrack : GoodIn wsX9_addPrint wsX9_requireTrack := goodIn_ca (goodIn_r _ [9, 10, 11, 3, 12, 13, 14, 15, 16, 17, 18, 19, 148, 149, 150, 151, 152, 153, 154, 155, 156, 157, 158, 159, 160, 161, 162, 163, 164, 165, 166, 167] (by decide +kernel) (by decide +kernel)) (goodIn_sub (fun _ h => List.mem_cons_of_mem _ (List.mem_append_left _ (List.mem_append_right _ h))) (by decide +kernel))
set_option maxRecDepth 20000 in
theorem gX9_addPrint_X9_requireTrack : GoodIn wsX9_addPrint (wsV RX9 92 RX9 yX9_requireTrack wsX9_requireTrack) := goodIn_app (goodIn_of _ (by decide +kernel)) ggX9_addPrint_X9_requireTrack
set_option maxRecDepth 20000 in
theorem ggX9_addPrint_X9_requireCell : GoodIn wsX9_addPrint wsX9_requireCell := goodIn_ca (goodIn_r _ [22, 10, 11, 23, 24, 8, 25, 26, 27, 28] (by decide +kernel) (by decide +kernel)) (goodIn_sub (fun _ h => List.mem_cons_of_mem _ (List.mem_append_left _ (List.mem_append_right _ h))) (by decide +kernel))
set_option maxRecDepth 20000 in
theorem gX9_addPrint_X9_requireCell : GoodIn wsX9_addPrint (va_wsS RX9 100 yX9_requireCell wsX9_requireCell) := goodIn_app (goodIn_of _ (by decide +kernel)) ggX9_addPrint_X9_requireCell
set_option maxRecDepth 20000 in
theorem ggX9_addPrint_X9_isTime : GoodIn wsX9_addPrint wsX9_isTime := goodIn_r _ [31] (by decide +kernel) (by decide +kernel)
set_option maxRecDepth 20000 in
theorem gX9_addPrint_X9_isTime : GoodIn wsX9_addPrint (va_wsS RX9 104 yX9_isTime wsX9_isTime) := goodIn_app (goodIn_of _ (by decide +kernel)) ggX9_addPrint_X9_isTime
set_option maxRecDepth 20000 in
theorem ggX9_addPrint_X9_isDepth : GoodIn wsX9_addPrint wsX9_isDepth := goodIn_r _ [34] (by decide +kernel) (by decide +kernel)
set_option maxRecDepth 20000 in
theorem gX9_addPrint_X9_isDepth : GoodIn wsX9_addPrint (va_wsS RX9 107 yX9_isDepth wsX9_isDepth) := goodIn_app (goodIn_of _ (by decide +kernel)) ggX9_addPrint_X9_isDepth
set_option maxRecDepth 20000 in
theorem ggX9_addPrint_X0_objectionToPrint : GoodIn wsX9_addPrint wsX0_objectionToPrint := goodIn_r _ [38, 39, 40, 41, 42, 43, 44, 45, 15, 46, 47, 48, 49, 50, 51, 52, 53, 54, 55, 56, 57, 58, 59, 60, 61, 62, 63, 64, 65, 66, 67, 68, 69, 70, 71, 72, 73, 74, 75, 76, 77, 78, 79, 80, 81, 82, 83, 84, 85, 86, 87, 88, 168, 169, 170, 171, 172, 173, 174, 175, 176, 177, 178, 179, 180, 158, 159, 160, 161, 162, 163, 164] (by decide +kernel) (by decide +kernel)
set_option maxRecDepth 20000 in
theorem gX9_addPrint_X0_objectionToPrint : GoodIn wsX9_addPrint (wsV RX9 112 RX0 yX0_objectionToPrint wsX0_objectionToPrint) := goodIn_app (goodIn_of _ (by decide +kernel)) ggX9_addPrint_X0_objectionToPrint
set_option maxRecDepth 20000 in
theorem ggX9_addPrint_X9_rejectFor : GoodIn wsX9_addPrint wsX9_rejectFor := goodIn_ca (goodIn_r _ [92, 93, 94, 95, 148, 149, 150, 151, 152, 153, 154, 155, 156, 157] (by decide +kernel) (by decide +kernel)) (goodIn_sub (fun _ h => List.mem_cons_of_mem _ (List.mem_append_right _ h)) (by decide +kernel))
set_option maxRecDepth 20000 in
theorem gX9_addPrint_X9_rejectFor : GoodIn wsX9_addPrint (wsV RX9 81 RX9 yX9_rejectFor wsX9_rejectFor) := goodIn_app (goodIn_of _ (by decide +kernel)) ggX9_addPrint_X9_rejectFor
set_option maxRecDepth 20000 in
theorem ggX9_addPrint_X2_push : GoodIn wsX9_addPrint wsX2_push := goodIn_r _ [100, 101, 102, 103, 104, 105, 106, 107, 108, 109, 15, 110, 17, 51, 79, 111, 112, 113, 114, 115, 116, 117, 118, 119, 120, 121, 122, 123, 124, 125, 71, 126, 73, 127, 74, 128, 129, 130, 131, 132, 133, 134, 181, 182, 158, 159, 160, 161, 162, 163, 164, 165, 166, 167, 171, 172, 173, 174, 175, 176, 177, 178, 179, 180] (by decide +kernel) (by decide +kernel)
set_option maxRecDepth 20000 in
theorem gX9_addPrint_X2_push : GoodIn wsX9_addPrint (wsV RX9 85 RX2 yX2_push wsX2_push) := goodIn_app (goodIn_of _ (by decide +kernel)) ggX9_addPrint_X2_push
set_option maxRecDepth 20000 in
theorem ggX9_addPrint_X0_putPrint : GoodIn wsX9_addPrint wsX0_putPrint := goodIn_r _ [138, 51, 52, 112, 42, 139, 67, 53, 88, 140, 141, 142, 143, 144, 145, 146, 15, 147, 68, 69, 70, 71, 72, 73, 74, 158, 159, 160, 161, 162, 163, 164, 171, 172, 173, 174, 175, 176, 177, 178, 179, 180] (by decide +kernel) (by decide +kernel)
set_option maxRecDepth 20000 in
theorem gX9_addPrint_X0_putPrint : GoodIn wsX9_addPrint (wsV RX9 116 RX0 yX0_putPrint wsX0_putPrint) := goodIn_app (goodIn_of _ (by decide +kernel)) ggX9_addPrint_X0_putPrint
theorem dX9_addPrint_0 : decode cX9_addPrint 0 = .ok (.aload_n 0, 1) := by decide +kernel
theorem dX9_addPrint_1 : decode cX9_addPrint 1 = .ok (.iload_n 1, 1) := by decide +kernel
theorem dX9_addPrint_2 : decode cX9_addPrint 2 = .ok (.invokevirtual 92, 3) := by decide +kernel
theorem dX9_addPrint_5 : decode cX9_addPrint 5 = .ok (.pop, 1) := by decide +kernel
theorem dX9_addPrint_6 : decode cX9_addPrint 6 = .ok (.iload_n 3, 1) := by decide +kernel
theorem dX9_addPrint_7 : decode cX9_addPrint 7 = .ok (.iload 4, 2) := by decide +kernel
theorem dX9_addPrint_9 : decode cX9_addPrint 9 = .ok (.invokestatic 100, 3) := by decide +kernel
theorem dX9_addPrint_12 : decode cX9_addPrint 12 = .ok (.iload_n 2, 1) := by decide +kernel
theorem dX9_addPrint_13 : decode cX9_addPrint 13 = .ok (.invokestatic 104, 3) := by decide +kernel
theorem dX9_addPrint_16 : decode cX9_addPrint 16 = .ok (.ifCond .eq 11, 3) := by decide +kernel
theorem dX9_addPrint_19 : decode cX9_addPrint 19 = .ok (.iload 6, 2) := by decide +kernel
theorem dX9_addPrint_21 : decode cX9_addPrint 21 = .ok (.invokestatic 107, 3) := by decide +kernel
theorem dX9_addPrint_24 : decode cX9_addPrint 24 = .ok (.ifCond .ne 13, 3) := by decide +kernel
theorem dX9_addPrint_27 : decode cX9_addPrint 27 = .ok (.new 70, 3) := by decide +kernel
theorem dX9_addPrint_30 : decode cX9_addPrint 30 = .ok (.dup, 1) := by decide +kernel
theorem dX9_addPrint_31 : decode cX9_addPrint 31 = .ok (.ldc 110, 2) := by decide +kernel
theorem dX9_addPrint_33 : decode cX9_addPrint 33 = .ok (.invokespecial 74, 3) := by decide +kernel
theorem dX9_addPrint_36 : decode cX9_addPrint 36 = .ok (.athrow, 1) := by decide +kernel
theorem dX9_addPrint_37 : decode cX9_addPrint 37 = .ok (.aload_n 0, 1) := by decide +kernel
theorem dX9_addPrint_38 : decode cX9_addPrint 38 = .ok (.aload_n 0, 1) := by decide +kernel
theorem dX9_addPrint_39 : decode cX9_addPrint 39 = .ok (.getfield 12, 3) := by decide +kernel
theorem dX9_addPrint_42 : decode cX9_addPrint 42 = .ok (.iload_n 1, 1) := by decide +kernel
theorem dX9_addPrint_43 : decode cX9_addPrint 43 = .ok (.iload_n 2, 1) := by decide +kernel
theorem dX9_addPrint_44 : decode cX9_addPrint 44 = .ok (.iload_n 3, 1) := by decide +kernel
theorem dX9_addPrint_45 : decode cX9_addPrint 45 = .ok (.iload 4, 2) := by decide +kernel
theorem dX9_addPrint_47 : decode cX9_addPrint 47 = .ok (.invokevirtual 112, 3) := by decide +kernel
theorem dX9_addPrint_50 : decode cX9_addPrint 50 = .ok (.invokevirtual 81, 3) := by decide +kernel
theorem dX9_addPrint_53 : decode cX9_addPrint 53 = .ok (.aload_n 0, 1) := by decide +kernel
theorem dX9_addPrint_54 : decode cX9_addPrint 54 = .ok (.getfield 28, 3) := by decide +kernel
theorem dX9_addPrint_57 : decode cX9_addPrint 57 = .ok (.aload_n 0, 1) := by decide +kernel
theorem dX9_addPrint_58 : decode cX9_addPrint 58 = .ok (.getfield 12, 3) := by decide +kernel
theorem dX9_addPrint_61 : decode cX9_addPrint 61 = .ok (.invokevirtual 85, 3) := by decide +kernel
theorem dX9_addPrint_64 : decode cX9_addPrint 64 = .ok (.aload_n 0, 1) := by decide +kernel
theorem dX9_addPrint_65 : decode cX9_addPrint 65 = .ok (.getfield 12, 3) := by decide +kernel
theorem dX9_addPrint_68 : decode cX9_addPrint 68 = .ok (.iload_n 1, 1) := by decide +kernel
theorem dX9_addPrint_69 : decode cX9_addPrint 69 = .ok (.iload_n 2, 1) := by decide +kernel
theorem dX9_addPrint_70 : decode cX9_addPrint 70 = .ok (.iload_n 3, 1) := by decide +kernel
theorem dX9_addPrint_71 : decode cX9_addPrint 71 = .ok (.iload 4, 2) := by decide +kernel
theorem dX9_addPrint_73 : decode cX9_addPrint 73 = .ok (.iload 5, 2) := by decide +kernel
theorem dX9_addPrint_75 : decode cX9_addPrint 75 = .ok (.iload 6, 2) := by decide +kernel
theorem dX9_addPrint_77 : decode cX9_addPrint 77 = .ok (.invokevirtual 116, 3) := by decide +kernel
theorem dX9_addPrint_80 : decode cX9_addPrint 80 = .ok (.ireturn, 1) := by decide +kernel
set_option maxRecDepth 20000 in
theorem ggX9_removePrint_X9_requirePrint : GoodIn wsX9_removePrint wsX9_requirePrint := goodIn_ca (goodIn_r _ [8, 9, 10, 2, 11, 12, 13, 14, 15, 16, 17, 18, 67, 68, 69, 70, 71, 72, 73, 74, 75, 76, 87, 88, 89, 90, 91, 92, 93, 77, 78, 79, 80, 81, 82, 83, 84, 85, 86] (by decide +kernel) (by decide +kernel)) (goodIn_sub (fun _ h => List.mem_cons_of_mem _ (List.mem_append_right _ h)) (by decide +kernel))
set_option maxRecDepth 20000 in
theorem gX9_removePrint_X9_requirePrint : GoodIn wsX9_removePrint (wsV RX9 120 RX9 yX9_requirePrint wsX9_requirePrint) := goodIn_app (goodIn_of _ (by decide +kernel)) ggX9_removePrint_X9_requirePrint
set_option maxRecDepth 20000 in
theorem ggX9_removePrint_X2_push : GoodIn wsX9_removePrint wsX2_push := goodIn_r _ [23, 24, 25, 26, 27, 28, 29, 30, 31, 32, 14, 33, 34, 16, 35, 36, 37, 38, 39, 40, 41, 42, 43, 44, 45, 46, 47, 48, 49, 50, 51, 52, 53, 54, 55, 56, 57, 58, 59, 60, 61, 62, 94, 95, 87, 88, 89, 90, 91, 92, 93, 96, 97, 98, 77, 78, 79, 80, 81, 82, 83, 84, 85, 86] (by decide +kernel) (by decide +kernel)
set_option maxRecDepth 20000 in
theorem gX9_removePrint_X2_push : GoodIn wsX9_removePrint (wsV RX9 85 RX2 yX2_push wsX2_push) := goodIn_app (goodIn_of _ (by decide +kernel)) ggX9_removePrint_X2_push
set_option maxRecDepth 20000 in
theorem ggX9_removePrint_X0_dropPrint : GoodIn wsX9_removePrint wsX0_dropPrint := goodIn_r _ [66, 17, 77, 78, 79, 80, 81, 82, 83, 84, 85, 86] (by decide +kernel) (by decide +kernel)
set_option maxRecDepth 20000 in
theorem gX9_removePrint_X0_dropPrint : GoodIn wsX9_removePrint (wsV RX9 124 RX0 yX0_dropPrint wsX0_dropPrint) := goodIn_app (goodIn_of _ (by decide +kernel)) ggX9_removePrint_X0_dropPrint
theorem dX9_removePrint_0 : decode cX9_removePrint 0 = .ok (.aload_n 0, 1) := by decide +kernel
theorem dX9_removePrint_1 : decode cX9_removePrint 1 = .ok (.iload_n 1, 1) := by decide +kernel
theorem dX9_removePrint_2 : decode cX9_removePrint 2 = .ok (.invokevirtual 120, 3) := by decide +kernel
theorem dX9_removePrint_5 : decode cX9_removePrint 5 = .ok (.astore_n 2, 1) := by decide +kernel
theorem dX9_removePrint_6 : decode cX9_removePrint 6 = .ok (.aload_n 0, 1) := by decide +kernel
theorem dX9_removePrint_7 : decode cX9_removePrint 7 = .ok (.getfield 28, 3) := by decide +kernel
theorem dX9_removePrint_10 : decode cX9_removePrint 10 = .ok (.aload_n 0, 1) := by decide +kernel
theorem dX9_removePrint_11 : decode cX9_removePrint 11 = .ok (.getfield 12, 3) := by decide +kernel
theorem dX9_removePrint_14 : decode cX9_removePrint 14 = .ok (.invokevirtual 85, 3) := by decide +kernel
theorem dX9_removePrint_17 : decode cX9_removePrint 17 = .ok (.aload_n 0, 1) := by decide +kernel
theorem dX9_removePrint_18 : decode cX9_removePrint 18 = .ok (.getfield 12, 3) := by decide +kernel
theorem dX9_removePrint_21 : decode cX9_removePrint 21 = .ok (.aload_n 2, 1) := by decide +kernel
theorem dX9_removePrint_22 : decode cX9_removePrint 22 = .ok (.invokevirtual 124, 3) := by decide +kernel
theorem dX9_removePrint_25 : decode cX9_removePrint 25 = .ok (.aload_n 2, 1) := by decide +kernel
theorem dX9_removePrint_26 : decode cX9_removePrint 26 = .ok (.getfield 128, 3) := by decide +kernel
theorem dX9_removePrint_29 : decode cX9_removePrint 29 = .ok (.ireturn, 1) := by decide +kernel
set_option maxRecDepth 20000 in
theorem ggX9_correctHeel_X9_requirePrint : GoodIn wsX9_correctHeel wsX9_requirePrint := goodIn_ca (goodIn_r _ [7, 8, 9, 1, 10, 11, 12, 13, 14, 15, 16, 17, 119, 120, 121, 122, 123, 124, 125, 126, 127, 128, 129, 130, 131, 132, 133, 134, 135, 136, 137, 138, 139, 140, 141, 142, 143, 144, 145] (by decide +kernel) (by decide +kernel)) (goodIn_sub (fun _ h => List.mem_cons_of_mem _ (List.mem_append_left _ (List.mem_append_right _ h))) (by decide +kernel))
set_option maxRecDepth 20000 in
theorem gX9_correctHeel_X9_requirePrint : GoodIn wsX9_correctHeel (wsV RX9 120 RX9 yX9_requirePrint wsX9_requirePrint) := goodIn_app (goodIn_of _ (by decide +kernel)) ggX9_correctHeel_X9_requirePrint
set_option maxRecDepth 20000 in
theorem ggX9_correctHeel_X9_requireCell : GoodIn wsX9_correctHeel wsX9_requireCell := goodIn_ca (goodIn_r _ [20, 8, 9, 21, 22, 6, 23, 24, 25, 26] (by decide +kernel) (by decide +kernel)) (goodIn_sub (fun _ h => List.mem_cons_of_mem _ (List.mem_append_left _ (List.mem_append_right _ h))) (by decide +kernel))
set_option maxRecDepth 20000 in
theorem gX9_correctHeel_X9_requireCell : GoodIn wsX9_correctHeel (va_wsS RX9 100 yX9_requireCell wsX9_requireCell) := goodIn_app (goodIn_of _ (by decide +kernel)) ggX9_correctHeel_X9_requireCell
set_option maxRecDepth 20000 in
theorem ggX9_correctHeel_X0_objectionToMove : GoodIn wsX9_correctHeel wsX0_objectionToMove := goodIn_r _ [30, 31, 32, 33, 34, 35, 36, 37, 38, 39, 40, 41, 42, 43, 44, 45, 46, 47, 48, 49, 50, 51, 52, 53, 54, 55, 56, 13, 57, 58, 17, 59, 60, 61, 62, 63, 64, 65, 66, 15, 16, 67, 68, 146, 147, 148, 136, 137, 138, 139, 140, 141, 142, 143, 144, 145, 129, 130, 131, 132, 133, 134, 135] (by decide +kernel) (by decide +kernel)
set_option maxRecDepth 20000 in
theorem gX9_correctHeel_X0_objectionToMove : GoodIn wsX9_correctHeel (wsV RX9 133 RX0 yX0_objectionToMove wsX0_objectionToMove) := goodIn_app (goodIn_of _ (by decide +kernel)) ggX9_correctHeel_X0_objectionToMove
set_option maxRecDepth 20000 in
theorem ggX9_correctHeel_X9_rejectFor : GoodIn wsX9_correctHeel wsX9_rejectFor := goodIn_ca (goodIn_r _ [72, 73, 74, 75, 119, 120, 121, 122, 123, 124, 125, 126, 127, 128] (by decide +kernel) (by decide +kernel)) (goodIn_sub (fun _ h => List.mem_cons_of_mem _ (List.mem_append_right _ h)) (by decide +kernel))
set_option maxRecDepth 20000 in
theorem gX9_correctHeel_X9_rejectFor : GoodIn wsX9_correctHeel (wsV RX9 81 RX9 yX9_rejectFor wsX9_rejectFor) := goodIn_app (goodIn_of _ (by decide +kernel)) ggX9_correctHeel_X9_rejectFor
set_option maxRecDepth 20000 in
theorem ggX9_correctHeel_X2_push : GoodIn wsX9_correctHeel wsX2_push := goodIn_r _ [80, 81, 82, 83, 84, 42, 85, 86, 87, 88, 13, 89, 90, 15, 58, 91, 92, 93, 94, 95, 96, 97, 98, 99, 100, 101, 102, 103, 104, 105, 37, 106, 107, 108, 109, 110, 39, 44, 111, 112, 113, 114, 149, 150, 129, 130, 131, 132, 133, 134, 135, 151, 152, 153, 136, 137, 138, 139, 140, 141, 142, 143, 144, 145] (by decide +kernel) (by decide +kernel)
set_option maxRecDepth 20000 in
theorem gX9_correctHeel_X2_push : GoodIn wsX9_correctHeel (wsV RX9 85 RX2 yX2_push wsX2_push) := goodIn_app (goodIn_of _ (by decide +kernel)) ggX9_correctHeel_X2_push
set_option maxRecDepth 20000 in
theorem ggX9_correctHeel_X0_moveHeel : GoodIn wsX9_correctHeel wsX0_moveHeel := goodIn_r _ [118, 67, 68, 94, 34, 35, 36, 37, 38, 39, 40, 41, 42, 43, 44, 136, 137, 138, 139, 140, 141, 142, 143, 144, 145, 129, 130, 131, 132, 133, 134, 135] (by decide +kernel) (by decide +kernel)
set_option maxRecDepth 20000 in
theorem gX9_correctHeel_X0_moveHeel : GoodIn wsX9_correctHeel (wsV RX9 137 RX0 yX0_moveHeel wsX0_moveHeel) := goodIn_app (goodIn_of _ (by decide +kernel)) ggX9_correctHeel_X0_moveHeel
theorem dX9_correctHeel_0 : decode cX9_correctHeel 0 = .ok (.aload_n 0, 1) := by decide +kernel
theorem dX9_correctHeel_1 : decode cX9_correctHeel 1 = .ok (.iload_n 1, 1) := by decide +kernel
theorem dX9_correctHeel_2 : decode cX9_correctHeel 2 = .ok (.invokevirtual 120, 3) := by decide +kernel
theorem dX9_correctHeel_5 : decode cX9_correctHeel 5 = .ok (.astore 4, 2) := by decide +kernel
theorem dX9_correctHeel_7 : decode cX9_correctHeel 7 = .ok (.iload_n 2, 1) := by decide +kernel
theorem dX9_correctHeel_8 : decode cX9_correctHeel 8 = .ok (.iload_n 3, 1) := by decide +kernel
theorem dX9_correctHeel_9 : decode cX9_correctHeel 9 = .ok (.invokestatic 100, 3) := by decide +kernel
theorem dX9_correctHeel_12 : decode cX9_correctHeel 12 = .ok (.aload_n 0, 1) := by decide +kernel
theorem dX9_correctHeel_13 : decode cX9_correctHeel 13 = .ok (.aload_n 0, 1) := by decide +kernel
theorem dX9_correctHeel_14 : decode cX9_correctHeel 14 = .ok (.getfield 12, 3) := by decide +kernel
theorem dX9_correctHeel_17 : decode cX9_correctHeel 17 = .ok (.aload 4, 2) := by decide +kernel
theorem dX9_correctHeel_19 : decode cX9_correctHeel 19 = .ok (.iload_n 2, 1) := by decide +kernel
theorem dX9_correctHeel_20 : decode cX9_correctHeel 20 = .ok (.iload_n 3, 1) := by decide +kernel
theorem dX9_correctHeel_21 : decode cX9_correctHeel 21 = .ok (.invokevirtual 133, 3) := by decide +kernel
theorem dX9_correctHeel_24 : decode cX9_correctHeel 24 = .ok (.invokevirtual 81, 3) := by decide +kernel
theorem dX9_correctHeel_27 : decode cX9_correctHeel 27 = .ok (.aload_n 0, 1) := by decide +kernel
theorem dX9_correctHeel_28 : decode cX9_correctHeel 28 = .ok (.getfield 28, 3) := by decide +kernel
theorem dX9_correctHeel_31 : decode cX9_correctHeel 31 = .ok (.aload_n 0, 1) := by decide +kernel
theorem dX9_correctHeel_32 : decode cX9_correctHeel 32 = .ok (.getfield 12, 3) := by decide +kernel
theorem dX9_correctHeel_35 : decode cX9_correctHeel 35 = .ok (.invokevirtual 85, 3) := by decide +kernel
theorem dX9_correctHeel_38 : decode cX9_correctHeel 38 = .ok (.aload_n 0, 1) := by decide +kernel
theorem dX9_correctHeel_39 : decode cX9_correctHeel 39 = .ok (.getfield 12, 3) := by decide +kernel
theorem dX9_correctHeel_42 : decode cX9_correctHeel 42 = .ok (.aload 4, 2) := by decide +kernel
theorem dX9_correctHeel_44 : decode cX9_correctHeel 44 = .ok (.iload_n 2, 1) := by decide +kernel
theorem dX9_correctHeel_45 : decode cX9_correctHeel 45 = .ok (.iload_n 3, 1) := by decide +kernel
theorem dX9_correctHeel_46 : decode cX9_correctHeel 46 = .ok (.invokevirtual 137, 3) := by decide +kernel
theorem dX9_correctHeel_49 : decode cX9_correctHeel 49 = .ok (.ireturn, 1) := by decide +kernel
set_option maxRecDepth 20000 in
theorem ggX9_swapFoot_X9_requirePrint : GoodIn wsX9_swapFoot wsX9_requirePrint := goodIn_ca (goodIn_r _ [7, 8, 9, 2, 10, 11, 12, 13, 14, 15, 16, 17, 66, 67, 68, 69, 70, 71, 72, 73, 74, 75, 76, 77, 78, 79, 80, 81, 82, 83, 84, 85, 86, 87, 88, 89, 90, 91, 92] (by decide +kernel) (by decide +kernel)) (goodIn_sub (fun _ h => List.mem_cons_of_mem _ (List.mem_append_right _ h)) (by decide +kernel))
set_option maxRecDepth 20000 in
theorem gX9_swapFoot_X9_requirePrint : GoodIn wsX9_swapFoot (wsV RX9 120 RX9 yX9_requirePrint wsX9_requirePrint) := goodIn_app (goodIn_of _ (by decide +kernel)) ggX9_swapFoot_X9_requirePrint
set_option maxRecDepth 20000 in
theorem ggX9_swapFoot_X2_push : GoodIn wsX9_swapFoot wsX2_push := goodIn_r _ [22, 23, 24, 25, 26, 27, 28, 29, 30, 31, 13, 32, 33, 15, 34, 35, 36, 37, 38, 39, 40, 41, 42, 43, 44, 45, 46, 47, 48, 49, 50, 51, 52, 53, 54, 55, 56, 57, 58, 59, 60, 61, 93, 94, 76, 77, 78, 79, 80, 81, 82, 95, 96, 97, 83, 84, 85, 86, 87, 88, 89, 90, 91, 92] (by decide +kernel) (by decide +kernel)
set_option maxRecDepth 20000 in
theorem gX9_swapFoot_X2_push : GoodIn wsX9_swapFoot (wsV RX9 85 RX2 yX2_push wsX2_push) := goodIn_app (goodIn_of _ (by decide +kernel)) ggX9_swapFoot_X2_push
set_option maxRecDepth 20000 in
theorem ggX9_swapFoot_X3_turnOver : GoodIn wsX9_swapFoot wsX3_turnOver := goodIn_r _ [65, 58, 83, 84, 85, 86, 87, 88, 89, 90, 91, 92] (by decide +kernel) (by decide +kernel)
set_option maxRecDepth 20000 in
theorem gX9_swapFoot_X3_turnOver : GoodIn wsX9_swapFoot (wsV RX9 141 RX3 yX3_turnOver wsX3_turnOver) := goodIn_app (goodIn_of _ (by decide +kernel)) ggX9_swapFoot_X3_turnOver
theorem dX9_swapFoot_0 : decode cX9_swapFoot 0 = .ok (.aload_n 0, 1) := by decide +kernel
theorem dX9_swapFoot_1 : decode cX9_swapFoot 1 = .ok (.iload_n 1, 1) := by decide +kernel
theorem dX9_swapFoot_2 : decode cX9_swapFoot 2 = .ok (.invokevirtual 120, 3) := by decide +kernel
theorem dX9_swapFoot_5 : decode cX9_swapFoot 5 = .ok (.astore_n 2, 1) := by decide +kernel
theorem dX9_swapFoot_6 : decode cX9_swapFoot 6 = .ok (.aload_n 0, 1) := by decide +kernel
theorem dX9_swapFoot_7 : decode cX9_swapFoot 7 = .ok (.getfield 28, 3) := by decide +kernel
theorem dX9_swapFoot_10 : decode cX9_swapFoot 10 = .ok (.aload_n 0, 1) := by decide +kernel
theorem dX9_swapFoot_11 : decode cX9_swapFoot 11 = .ok (.getfield 12, 3) := by decide +kernel
theorem dX9_swapFoot_14 : decode cX9_swapFoot 14 = .ok (.invokevirtual 85, 3) := by decide +kernel
theorem dX9_swapFoot_17 : decode cX9_swapFoot 17 = .ok (.aload_n 2, 1) := by decide +kernel
theorem dX9_swapFoot_18 : decode cX9_swapFoot 18 = .ok (.invokevirtual 141, 3) := by decide +kernel
theorem dX9_swapFoot_21 : decode cX9_swapFoot 21 = .ok (.ireturn, 1) := by decide +kernel
set_option maxRecDepth 20000 in
theorem ggX9_doubtToes_X9_requirePrint : GoodIn wsX9_doubtToes wsX9_requirePrint := goodIn_ca (goodIn_r _ [7, 8, 9, 1, 10, 11, 12, 13, 14, 15, 16, 17, 90, 91, 92, 93, 94, 95, 96, 97, 98, 99, 100, 101, 102, 103, 104, 105, 106, 107, 108, 109, 110, 111, 112, 113, 114, 115, 116] (by decide +kernel) (by decide +kernel)) (goodIn_sub (fun _ h => List.mem_cons_of_mem _ (List.mem_append_left _ (List.mem_append_right _ h))) (by decide +kernel))
set_option maxRecDepth 20000 in
theorem gX9_doubtToes_X9_requirePrint : GoodIn wsX9_doubtToes (wsV RX9 120 RX9 yX9_requirePrint wsX9_requirePrint) := goodIn_app (goodIn_of _ (by decide +kernel)) ggX9_doubtToes_X9_requirePrint
set_option maxRecDepth 20000 in
theorem ggX9_doubtToes_X0_objectionToDoubt : GoodIn wsX9_doubtToes wsX0_objectionToDoubt := goodIn_r _ [21, 22, 23, 24, 25, 26, 27, 28, 29, 30, 31, 32, 33, 34, 107, 108, 109, 110, 111, 112, 113, 114, 115, 116, 117, 118, 119] (by decide +kernel) (by decide +kernel)
set_option maxRecDepth 20000 in
theorem gX9_doubtToes_X0_objectionToDoubt : GoodIn wsX9_doubtToes (wsV RX9 145 RX0 yX0_objectionToDoubt wsX0_objectionToDoubt) := goodIn_app (goodIn_of _ (by decide +kernel)) ggX9_doubtToes_X0_objectionToDoubt
set_option maxRecDepth 20000 in
theorem ggX9_doubtToes_X9_rejectFor : GoodIn wsX9_doubtToes wsX9_rejectFor := goodIn_ca (goodIn_r _ [38, 39, 40, 41, 90, 91, 92, 93, 94, 95, 96, 97, 98, 99] (by decide +kernel) (by decide +kernel)) (goodIn_sub (fun _ h => List.mem_cons_of_mem _ (List.mem_append_right _ h)) (by decide +kernel))
set_option maxRecDepth 20000 in
theorem gX9_doubtToes_X9_rejectFor : GoodIn wsX9_doubtToes (wsV RX9 81 RX9 yX9_rejectFor wsX9_rejectFor) := goodIn_app (goodIn_of _ (by decide +kernel)) ggX9_doubtToes_X9_rejectFor
set_option maxRecDepth 20000 in
theorem ggX9_doubtToes_X2_push : GoodIn wsX9_doubtToes wsX2_push := goodIn_r _ [46, 47, 48, 49, 50, 51, 52, 53, 54, 55, 13, 56, 57, 15, 58, 59, 60, 61, 62, 63, 64, 65, 66, 67, 68, 69, 70, 71, 72, 73, 74, 75, 76, 77, 78, 79, 80, 81, 82, 83, 84, 85, 120, 121, 100, 101, 102, 103, 104, 105, 106, 122, 123, 124, 107, 108, 109, 110, 111, 112, 113, 114, 115, 116] (by decide +kernel) (by decide +kernel)
set_option maxRecDepth 20000 in
theorem gX9_doubtToes_X2_push : GoodIn wsX9_doubtToes (wsV RX9 85 RX2 yX2_push wsX2_push) := goodIn_app (goodIn_of _ (by decide +kernel)) ggX9_doubtToes_X2_push
set_option maxRecDepth 20000 in
theorem ggX9_doubtToes_X3_raiseDoubt : GoodIn wsX9_doubtToes wsX3_raiseDoubt := goodIn_r _ [89, 84, 107, 108, 109, 110, 111, 112, 113, 114, 115, 116] (by decide +kernel) (by decide +kernel)
set_option maxRecDepth 20000 in
theorem gX9_doubtToes_X3_raiseDoubt : GoodIn wsX9_doubtToes (wsV RX9 149 RX3 yX3_raiseDoubt wsX3_raiseDoubt) := goodIn_app (goodIn_of _ (by decide +kernel)) ggX9_doubtToes_X3_raiseDoubt
theorem dX9_doubtToes_0 : decode cX9_doubtToes 0 = .ok (.aload_n 0, 1) := by decide +kernel
theorem dX9_doubtToes_1 : decode cX9_doubtToes 1 = .ok (.iload_n 1, 1) := by decide +kernel
theorem dX9_doubtToes_2 : decode cX9_doubtToes 2 = .ok (.invokevirtual 120, 3) := by decide +kernel
theorem dX9_doubtToes_5 : decode cX9_doubtToes 5 = .ok (.astore_n 2, 1) := by decide +kernel
theorem dX9_doubtToes_6 : decode cX9_doubtToes 6 = .ok (.aload_n 0, 1) := by decide +kernel
theorem dX9_doubtToes_7 : decode cX9_doubtToes 7 = .ok (.aload_n 0, 1) := by decide +kernel
theorem dX9_doubtToes_8 : decode cX9_doubtToes 8 = .ok (.getfield 12, 3) := by decide +kernel
theorem dX9_doubtToes_11 : decode cX9_doubtToes 11 = .ok (.aload_n 2, 1) := by decide +kernel
theorem dX9_doubtToes_12 : decode cX9_doubtToes 12 = .ok (.invokevirtual 145, 3) := by decide +kernel
theorem dX9_doubtToes_15 : decode cX9_doubtToes 15 = .ok (.invokevirtual 81, 3) := by decide +kernel
theorem dX9_doubtToes_18 : decode cX9_doubtToes 18 = .ok (.aload_n 0, 1) := by decide +kernel
theorem dX9_doubtToes_19 : decode cX9_doubtToes 19 = .ok (.getfield 28, 3) := by decide +kernel
theorem dX9_doubtToes_22 : decode cX9_doubtToes 22 = .ok (.aload_n 0, 1) := by decide +kernel
theorem dX9_doubtToes_23 : decode cX9_doubtToes 23 = .ok (.getfield 12, 3) := by decide +kernel
theorem dX9_doubtToes_26 : decode cX9_doubtToes 26 = .ok (.invokevirtual 85, 3) := by decide +kernel
theorem dX9_doubtToes_29 : decode cX9_doubtToes 29 = .ok (.aload_n 2, 1) := by decide +kernel
theorem dX9_doubtToes_30 : decode cX9_doubtToes 30 = .ok (.invokevirtual 149, 3) := by decide +kernel
theorem dX9_doubtToes_33 : decode cX9_doubtToes 33 = .ok (.ireturn, 1) := by decide +kernel
set_option maxRecDepth 20000 in
theorem ggX9_confirmToes_X9_requirePrint : GoodIn wsX9_confirmToes wsX9_requirePrint := goodIn_ca (goodIn_r _ [7, 8, 9, 1, 10, 11, 12, 13, 14, 15, 16, 17, 90, 91, 92, 93, 94, 95, 96, 97, 98, 99, 100, 101, 102, 103, 104, 105, 106, 107, 108, 109, 110, 111, 112, 113, 114, 115, 116] (by decide +kernel) (by decide +kernel)) (goodIn_sub (fun _ h => List.mem_cons_of_mem _ (List.mem_append_left _ (List.mem_append_right _ h))) (by decide +kernel))
set_option maxRecDepth 20000 in
theorem gX9_confirmToes_X9_requirePrint : GoodIn wsX9_confirmToes (wsV RX9 120 RX9 yX9_requirePrint wsX9_requirePrint) := goodIn_app (goodIn_of _ (by decide +kernel)) ggX9_confirmToes_X9_requirePrint
set_option maxRecDepth 20000 in
theorem ggX9_confirmToes_X0_objectionToConfirmation : GoodIn wsX9_confirmToes wsX0_objectionToConfirmation := goodIn_r _ [21, 22, 23, 24, 25, 26, 27, 28, 29, 30, 31, 32, 33, 34, 107, 108, 109, 110, 111, 112, 113, 114, 115, 116, 117, 118, 119] (by decide +kernel) (by decide +kernel)
set_option maxRecDepth 20000 in
theorem gX9_confirmToes_X0_objectionToConfirmation : GoodIn wsX9_confirmToes (wsV RX9 153 RX0 yX0_objectionToConfirmation wsX0_objectionToConfirmation) := goodIn_app (goodIn_of _ (by decide +kernel)) ggX9_confirmToes_X0_objectionToConfirmation
set_option maxRecDepth 20000 in
theorem ggX9_confirmToes_X9_rejectFor : GoodIn wsX9_confirmToes wsX9_rejectFor := goodIn_ca (goodIn_r _ [38, 39, 40, 41, 90, 91, 92, 93, 94, 95, 96, 97, 98, 99] (by decide +kernel) (by decide +kernel)) (goodIn_sub (fun _ h => List.mem_cons_of_mem _ (List.mem_append_right _ h)) (by decide +kernel))
set_option maxRecDepth 20000 in
theorem gX9_confirmToes_X9_rejectFor : GoodIn wsX9_confirmToes (wsV RX9 81 RX9 yX9_rejectFor wsX9_rejectFor) := goodIn_app (goodIn_of _ (by decide +kernel)) ggX9_confirmToes_X9_rejectFor
set_option maxRecDepth 20000 in
theorem ggX9_confirmToes_X2_push : GoodIn wsX9_confirmToes wsX2_push := goodIn_r _ [46, 47, 48, 49, 50, 51, 52, 53, 54, 55, 13, 56, 57, 15, 58, 59, 60, 61, 62, 63, 64, 65, 66, 67, 68, 69, 70, 71, 72, 73, 74, 75, 76, 77, 78, 79, 80, 81, 82, 83, 84, 85, 120, 121, 100, 101, 102, 103, 104, 105, 106, 122, 123, 124, 107, 108, 109, 110, 111, 112, 113, 114, 115, 116] (by decide +kernel) (by decide +kernel)
set_option maxRecDepth 20000 in
theorem gX9_confirmToes_X2_push : GoodIn wsX9_confirmToes (wsV RX9 85 RX2 yX2_push wsX2_push) := goodIn_app (goodIn_of _ (by decide +kernel)) ggX9_confirmToes_X2_push
set_option maxRecDepth 20000 in
theorem ggX9_confirmToes_X3_settleDoubts : GoodIn wsX9_confirmToes wsX3_settleDoubts := goodIn_r _ [89, 84, 107, 108, 109, 110, 111, 112, 113, 114, 115, 116] (by decide +kernel) (by decide +kernel)
set_option maxRecDepth 20000 in
theorem gX9_confirmToes_X3_settleDoubts : GoodIn wsX9_confirmToes (wsV RX9 156 RX3 yX3_settleDoubts wsX3_settleDoubts) := goodIn_app (goodIn_of _ (by decide +kernel)) ggX9_confirmToes_X3_settleDoubts
theorem dX9_confirmToes_0 : decode cX9_confirmToes 0 = .ok (.aload_n 0, 1) := by decide +kernel
theorem dX9_confirmToes_1 : decode cX9_confirmToes 1 = .ok (.iload_n 1, 1) := by decide +kernel
theorem dX9_confirmToes_2 : decode cX9_confirmToes 2 = .ok (.invokevirtual 120, 3) := by decide +kernel
theorem dX9_confirmToes_5 : decode cX9_confirmToes 5 = .ok (.astore_n 2, 1) := by decide +kernel
theorem dX9_confirmToes_6 : decode cX9_confirmToes 6 = .ok (.aload_n 0, 1) := by decide +kernel
theorem dX9_confirmToes_7 : decode cX9_confirmToes 7 = .ok (.aload_n 0, 1) := by decide +kernel
theorem dX9_confirmToes_8 : decode cX9_confirmToes 8 = .ok (.getfield 12, 3) := by decide +kernel
theorem dX9_confirmToes_11 : decode cX9_confirmToes 11 = .ok (.aload_n 2, 1) := by decide +kernel
theorem dX9_confirmToes_12 : decode cX9_confirmToes 12 = .ok (.invokevirtual 153, 3) := by decide +kernel
theorem dX9_confirmToes_15 : decode cX9_confirmToes 15 = .ok (.invokevirtual 81, 3) := by decide +kernel
theorem dX9_confirmToes_18 : decode cX9_confirmToes 18 = .ok (.aload_n 0, 1) := by decide +kernel
theorem dX9_confirmToes_19 : decode cX9_confirmToes 19 = .ok (.getfield 28, 3) := by decide +kernel
theorem dX9_confirmToes_22 : decode cX9_confirmToes 22 = .ok (.aload_n 0, 1) := by decide +kernel
theorem dX9_confirmToes_23 : decode cX9_confirmToes 23 = .ok (.getfield 12, 3) := by decide +kernel
theorem dX9_confirmToes_26 : decode cX9_confirmToes 26 = .ok (.invokevirtual 85, 3) := by decide +kernel
theorem dX9_confirmToes_29 : decode cX9_confirmToes 29 = .ok (.aload_n 2, 1) := by decide +kernel
theorem dX9_confirmToes_30 : decode cX9_confirmToes 30 = .ok (.invokevirtual 156, 3) := by decide +kernel
theorem dX9_confirmToes_33 : decode cX9_confirmToes 33 = .ok (.ireturn, 1) := by decide +kernel
set_option maxRecDepth 20000 in
theorem ggX9_setTide_X9_requireLevel : GoodIn wsX9_setTide wsX9_requireLevel := goodIn_ca (goodIn_r _ [6, 7, 8, 9, 10, 5, 11] (by decide +kernel) (by decide +kernel)) (goodIn_sub (fun _ h => List.mem_cons_of_mem _ (List.mem_append_left _ (List.mem_append_right _ h))) (by decide +kernel))
set_option maxRecDepth 20000 in
theorem gX9_setTide_X9_requireLevel : GoodIn wsX9_setTide (va_wsS RX9 159 yX9_requireLevel wsX9_requireLevel) := goodIn_app (goodIn_of _ (by decide +kernel)) ggX9_setTide_X9_requireLevel
set_option maxRecDepth 20000 in
theorem ggX9_setTide_X0_objectionToTide : GoodIn wsX9_setTide wsX0_objectionToTide := goodIn_r _ [16, 17, 18, 19, 20, 21, 22, 23, 24, 25, 26, 27, 28, 29, 101, 102, 103, 104, 105, 106, 107, 108, 109, 110] (by decide +kernel) (by decide +kernel)
set_option maxRecDepth 20000 in
theorem gX9_setTide_X0_objectionToTide : GoodIn wsX9_setTide (wsV RX9 163 RX0 yX0_objectionToTide wsX0_objectionToTide) := goodIn_app (goodIn_of _ (by decide +kernel)) ggX9_setTide_X0_objectionToTide
set_option maxRecDepth 20000 in
theorem ggX9_setTide_X9_rejectFor : GoodIn wsX9_setTide wsX9_rejectFor := goodIn_ca (goodIn_r _ [33, 34, 35, 36, 91, 92, 93, 94, 95, 96, 97, 98, 99, 100] (by decide +kernel) (by decide +kernel)) (goodIn_sub (fun _ h => List.mem_cons_of_mem _ (List.mem_append_right _ h)) (by decide +kernel))
set_option maxRecDepth 20000 in
theorem gX9_setTide_X9_rejectFor : GoodIn wsX9_setTide (wsV RX9 81 RX9 yX9_rejectFor wsX9_rejectFor) := goodIn_app (goodIn_of _ (by decide +kernel)) ggX9_setTide_X9_rejectFor
set_option maxRecDepth 20000 in
theorem ggX9_setTide_X2_push : GoodIn wsX9_setTide wsX2_push := goodIn_r _ [41, 42, 43, 44, 45, 46, 47, 48, 49, 50, 15, 51, 52, 53, 17, 54, 55, 56, 57, 58, 59, 60, 61, 62, 63, 64, 65, 66, 67, 68, 69, 70, 71, 72, 73, 74, 75, 76, 77, 78, 79, 80, 111, 112, 101, 102, 103, 104, 105, 106, 107, 113, 114, 115, 116, 117, 118, 119, 120, 121, 122, 123, 124, 125] (by decide +kernel) (by decide +kernel)
set_option maxRecDepth 20000 in
theorem gX9_setTide_X2_push : GoodIn wsX9_setTide (wsV RX9 85 RX2 yX2_push wsX2_push) := goodIn_app (goodIn_of _ (by decide +kernel)) ggX9_setTide_X2_push
set_option maxRecDepth 20000 in
theorem ggX9_setTide_X0_moveTide : GoodIn wsX9_setTide wsX0_moveTide := goodIn_r _ [84, 17, 53, 85, 86, 56, 87, 88, 89, 15, 90, 101, 102, 103, 104, 105, 106, 107, 116, 117, 118, 119, 120, 121, 122, 123, 124, 125] (by decide +kernel) (by decide +kernel)
set_option maxRecDepth 20000 in
theorem gX9_setTide_X0_moveTide : GoodIn wsX9_setTide (wsV RX9 167 RX0 yX0_moveTide wsX0_moveTide) := goodIn_app (goodIn_of _ (by decide +kernel)) ggX9_setTide_X0_moveTide
theorem dX9_setTide_0 : decode cX9_setTide 0 = .ok (.iload_n 1, 1) := by decide +kernel
theorem dX9_setTide_1 : decode cX9_setTide 1 = .ok (.invokestatic 159, 3) := by decide +kernel
theorem dX9_setTide_4 : decode cX9_setTide 4 = .ok (.aload_n 0, 1) := by decide +kernel
theorem dX9_setTide_5 : decode cX9_setTide 5 = .ok (.aload_n 0, 1) := by decide +kernel
theorem dX9_setTide_6 : decode cX9_setTide 6 = .ok (.getfield 12, 3) := by decide +kernel
theorem dX9_setTide_9 : decode cX9_setTide 9 = .ok (.iload_n 1, 1) := by decide +kernel
theorem dX9_setTide_10 : decode cX9_setTide 10 = .ok (.invokevirtual 163, 3) := by decide +kernel
theorem dX9_setTide_13 : decode cX9_setTide 13 = .ok (.invokevirtual 81, 3) := by decide +kernel
theorem dX9_setTide_16 : decode cX9_setTide 16 = .ok (.aload_n 0, 1) := by decide +kernel
theorem dX9_setTide_17 : decode cX9_setTide 17 = .ok (.getfield 28, 3) := by decide +kernel
theorem dX9_setTide_20 : decode cX9_setTide 20 = .ok (.aload_n 0, 1) := by decide +kernel
theorem dX9_setTide_21 : decode cX9_setTide 21 = .ok (.getfield 12, 3) := by decide +kernel
theorem dX9_setTide_24 : decode cX9_setTide 24 = .ok (.invokevirtual 85, 3) := by decide +kernel
theorem dX9_setTide_27 : decode cX9_setTide 27 = .ok (.aload_n 0, 1) := by decide +kernel
theorem dX9_setTide_28 : decode cX9_setTide 28 = .ok (.getfield 12, 3) := by decide +kernel
theorem dX9_setTide_31 : decode cX9_setTide 31 = .ok (.iload_n 1, 1) := by decide +kernel
theorem dX9_setTide_32 : decode cX9_setTide 32 = .ok (.invokevirtual 167, 3) := by decide +kernel
theorem dX9_setTide_35 : decode cX9_setTide 35 = .ok (.ireturn, 1) := by decide +kernel
set_option maxRecDepth 20000 in
theorem ggX9_trackOf_X9_requirePrint : GoodIn wsX9_trackOf wsX9_requirePrint := goodIn_ca (goodIn_r _ [6, 7, 8, 9, 10, 11, 12, 13, 14, 15, 16, 17, 28, 29, 30, 31, 32, 33, 34, 35, 36, 37, 38, 39, 40, 41, 42, 43, 44, 18, 19, 20, 21, 22, 23, 24, 25, 26, 27] (by decide +kernel) (by decide +kernel)) (goodIn_sub (fun _ h => List.mem_cons_of_mem _ (List.mem_append_right _ h)) (by decide +kernel))
set_option maxRecDepth 20000 in
theorem gX9_trackOf_X9_requirePrint : GoodIn wsX9_trackOf (wsV RX9 120 RX9 yX9_requirePrint wsX9_requirePrint) := goodIn_app (goodIn_of _ (by decide +kernel)) ggX9_trackOf_X9_requirePrint
theorem dX9_trackOf_0 : decode cX9_trackOf 0 = .ok (.aload_n 0, 1) := by decide +kernel
theorem dX9_trackOf_1 : decode cX9_trackOf 1 = .ok (.iload_n 1, 1) := by decide +kernel
theorem dX9_trackOf_2 : decode cX9_trackOf 2 = .ok (.invokevirtual 120, 3) := by decide +kernel
theorem dX9_trackOf_5 : decode cX9_trackOf 5 = .ok (.getfield 128, 3) := by decide +kernel
theorem dX9_trackOf_8 : decode cX9_trackOf 8 = .ok (.ireturn, 1) := by decide +kernel
set_option maxRecDepth 20000 in
theorem ggX9_timeOf_X9_requirePrint : GoodIn wsX9_timeOf wsX9_requirePrint := goodIn_ca (goodIn_r _ [6, 7, 8, 9, 10, 11, 12, 13, 14, 15, 16, 17, 28, 29, 30, 31, 32, 33, 34, 35, 36, 37, 38, 39, 40, 41, 42, 43, 44, 18, 19, 20, 21, 22, 23, 24, 25, 26, 27] (by decide +kernel) (by decide +kernel)) (goodIn_sub (fun _ h => List.mem_cons_of_mem _ (List.mem_append_right _ h)) (by decide +kernel))
set_option maxRecDepth 20000 in
theorem gX9_timeOf_X9_requirePrint : GoodIn wsX9_timeOf (wsV RX9 120 RX9 yX9_requirePrint wsX9_requirePrint) := goodIn_app (goodIn_of _ (by decide +kernel)) ggX9_timeOf_X9_requirePrint
theorem dX9_timeOf_0 : decode cX9_timeOf 0 = .ok (.aload_n 0, 1) := by decide +kernel
theorem dX9_timeOf_1 : decode cX9_timeOf 1 = .ok (.iload_n 1, 1) := by decide +kernel
theorem dX9_timeOf_2 : decode cX9_timeOf 2 = .ok (.invokevirtual 120, 3) := by decide +kernel
theorem dX9_timeOf_5 : decode cX9_timeOf 5 = .ok (.getfield 170, 3) := by decide +kernel
theorem dX9_timeOf_8 : decode cX9_timeOf 8 = .ok (.ireturn, 1) := by decide +kernel
set_option maxRecDepth 20000 in
theorem ggX9_rowOf_X9_requirePrint : GoodIn wsX9_rowOf wsX9_requirePrint := goodIn_ca (goodIn_r _ [6, 7, 8, 9, 10, 11, 12, 13, 14, 15, 16, 17, 28, 29, 30, 31, 32, 33, 34, 35, 36, 37, 38, 39, 40, 41, 42, 43, 44, 18, 19, 20, 21, 22, 23, 24, 25, 26, 27] (by decide +kernel) (by decide +kernel)) (goodIn_sub (fun _ h => List.mem_cons_of_mem _ (List.mem_append_right _ h)) (by decide +kernel))
set_option maxRecDepth 20000 in
theorem gX9_rowOf_X9_requirePrint : GoodIn wsX9_rowOf (wsV RX9 120 RX9 yX9_requirePrint wsX9_requirePrint) := goodIn_app (goodIn_of _ (by decide +kernel)) ggX9_rowOf_X9_requirePrint
theorem dX9_rowOf_0 : decode cX9_rowOf 0 = .ok (.aload_n 0, 1) := by decide +kernel
theorem dX9_rowOf_1 : decode cX9_rowOf 1 = .ok (.iload_n 1, 1) := by decide +kernel
theorem dX9_rowOf_2 : decode cX9_rowOf 2 = .ok (.invokevirtual 120, 3) := by decide +kernel
theorem dX9_rowOf_5 : decode cX9_rowOf 5 = .ok (.getfield 173, 3) := by decide +kernel
theorem dX9_rowOf_8 : decode cX9_rowOf 8 = .ok (.ireturn, 1) := by decide +kernel
set_option maxRecDepth 20000 in
theorem ggX9_columnOf_X9_requirePrint : GoodIn wsX9_columnOf wsX9_requirePrint := goodIn_ca (goodIn_r _ [6, 7, 8, 9, 10, 11, 12, 13, 14, 15, 16, 17, 28, 29, 30, 31, 32, 33, 34, 35, 36, 37, 38, 39, 40, 41, 42, 43, 44, 18, 19, 20, 21, 22, 23, 24, 25, 26, 27] (by decide +kernel) (by decide +kernel)) (goodIn_sub (fun _ h => List.mem_cons_of_mem _ (List.mem_append_right _ h)) (by decide +kernel))
set_option maxRecDepth 20000 in
theorem gX9_columnOf_X9_requirePrint : GoodIn wsX9_columnOf (wsV RX9 120 RX9 yX9_requirePrint wsX9_requirePrint) := goodIn_app (goodIn_of _ (by decide +kernel)) ggX9_columnOf_X9_requirePrint
theorem dX9_columnOf_0 : decode cX9_columnOf 0 = .ok (.aload_n 0, 1) := by decide +kernel
theorem dX9_columnOf_1 : decode cX9_columnOf 1 = .ok (.iload_n 1, 1) := by decide +kernel
theorem dX9_columnOf_2 : decode cX9_columnOf 2 = .ok (.invokevirtual 120, 3) := by decide +kernel
theorem dX9_columnOf_5 : decode cX9_columnOf 5 = .ok (.getfield 176, 3) := by decide +kernel
theorem dX9_columnOf_8 : decode cX9_columnOf 8 = .ok (.ireturn, 1) := by decide +kernel
set_option maxRecDepth 20000 in
theorem ggX9_isLeft_X9_requirePrint : GoodIn wsX9_isLeft wsX9_requirePrint := goodIn_ca (goodIn_r _ [6, 7, 8, 9, 10, 11, 12, 13, 14, 15, 16, 17, 28, 29, 30, 31, 32, 33, 34, 35, 36, 37, 38, 39, 40, 41, 42, 43, 44, 18, 19, 20, 21, 22, 23, 24, 25, 26, 27] (by decide +kernel) (by decide +kernel)) (goodIn_sub (fun _ h => List.mem_cons_of_mem _ (List.mem_append_right _ h)) (by decide +kernel))
set_option maxRecDepth 20000 in
theorem gX9_isLeft_X9_requirePrint : GoodIn wsX9_isLeft (wsV RX9 120 RX9 yX9_requirePrint wsX9_requirePrint) := goodIn_app (goodIn_of _ (by decide +kernel)) ggX9_isLeft_X9_requirePrint
theorem dX9_isLeft_0 : decode cX9_isLeft 0 = .ok (.aload_n 0, 1) := by decide +kernel
theorem dX9_isLeft_1 : decode cX9_isLeft 1 = .ok (.iload_n 1, 1) := by decide +kernel
theorem dX9_isLeft_2 : decode cX9_isLeft 2 = .ok (.invokevirtual 120, 3) := by decide +kernel
theorem dX9_isLeft_5 : decode cX9_isLeft 5 = .ok (.getfield 179, 3) := by decide +kernel
theorem dX9_isLeft_8 : decode cX9_isLeft 8 = .ok (.ireturn, 1) := by decide +kernel
set_option maxRecDepth 20000 in
theorem ggX9_depthOf_X9_requirePrint : GoodIn wsX9_depthOf wsX9_requirePrint := goodIn_ca (goodIn_r _ [6, 7, 8, 9, 10, 11, 12, 13, 14, 15, 16, 17, 28, 29, 30, 31, 32, 33, 34, 35, 36, 37, 38, 39, 40, 41, 42, 43, 44, 18, 19, 20, 21, 22, 23, 24, 25, 26, 27] (by decide +kernel) (by decide +kernel)) (goodIn_sub (fun _ h => List.mem_cons_of_mem _ (List.mem_append_right _ h)) (by decide +kernel))
set_option maxRecDepth 20000 in
theorem gX9_depthOf_X9_requirePrint : GoodIn wsX9_depthOf (wsV RX9 120 RX9 yX9_requirePrint wsX9_requirePrint) := goodIn_app (goodIn_of _ (by decide +kernel)) ggX9_depthOf_X9_requirePrint
theorem dX9_depthOf_0 : decode cX9_depthOf 0 = .ok (.aload_n 0, 1) := by decide +kernel
theorem dX9_depthOf_1 : decode cX9_depthOf 1 = .ok (.iload_n 1, 1) := by decide +kernel
theorem dX9_depthOf_2 : decode cX9_depthOf 2 = .ok (.invokevirtual 120, 3) := by decide +kernel
theorem dX9_depthOf_5 : decode cX9_depthOf 5 = .ok (.getfield 182, 3) := by decide +kernel
theorem dX9_depthOf_8 : decode cX9_depthOf 8 = .ok (.ireturn, 1) := by decide +kernel
set_option maxRecDepth 20000 in
theorem ggX9_doubtsOf_X9_requirePrint : GoodIn wsX9_doubtsOf wsX9_requirePrint := goodIn_ca (goodIn_r _ [6, 7, 8, 9, 10, 11, 12, 13, 14, 15, 16, 17, 28, 29, 30, 31, 32, 33, 34, 35, 36, 37, 38, 39, 40, 41, 42, 43, 44, 18, 19, 20, 21, 22, 23, 24, 25, 26, 27] (by decide +kernel) (by decide +kernel)) (goodIn_sub (fun _ h => List.mem_cons_of_mem _ (List.mem_append_right _ h)) (by decide +kernel))
set_option maxRecDepth 20000 in
theorem gX9_doubtsOf_X9_requirePrint : GoodIn wsX9_doubtsOf (wsV RX9 120 RX9 yX9_requirePrint wsX9_requirePrint) := goodIn_app (goodIn_of _ (by decide +kernel)) ggX9_doubtsOf_X9_requirePrint
theorem dX9_doubtsOf_0 : decode cX9_doubtsOf 0 = .ok (.aload_n 0, 1) := by decide +kernel
theorem dX9_doubtsOf_1 : decode cX9_doubtsOf 1 = .ok (.iload_n 1, 1) := by decide +kernel
theorem dX9_doubtsOf_2 : decode cX9_doubtsOf 2 = .ok (.invokevirtual 120, 3) := by decide +kernel
theorem dX9_doubtsOf_5 : decode cX9_doubtsOf 5 = .ok (.getfield 185, 3) := by decide +kernel
theorem dX9_doubtsOf_8 : decode cX9_doubtsOf 8 = .ok (.ireturn, 1) := by decide +kernel
set_option maxRecDepth 20000 in
theorem ggX9_confidence_X9_requirePrint : GoodIn wsX9_confidence wsX9_requirePrint := goodIn_ca (goodIn_r _ [6, 7, 8, 9, 10, 11, 12, 13, 14, 15, 16, 17, 28, 29, 30, 31, 32, 33, 34, 35, 36, 37, 38, 39, 40, 41, 42, 43, 44, 18, 19, 20, 21, 22, 23, 24, 25, 26, 27] (by decide +kernel) (by decide +kernel)) (goodIn_sub (fun _ h => List.mem_cons_of_mem _ (List.mem_append_right _ h)) (by decide +kernel))
set_option maxRecDepth 20000 in
theorem gX9_confidence_X9_requirePrint : GoodIn wsX9_confidence (wsV RX9 120 RX9 yX9_requirePrint wsX9_requirePrint) := goodIn_app (goodIn_of _ (by decide +kernel)) ggX9_confidence_X9_requirePrint
theorem dX9_confidence_0 : decode cX9_confidence 0 = .ok (.dconst 1, 1) := by decide +kernel
theorem dX9_confidence_1 : decode cX9_confidence 1 = .ok (.dconst 1, 1) := by decide +kernel
theorem dX9_confidence_2 : decode cX9_confidence 2 = .ok (.aload_n 0, 1) := by decide +kernel
theorem dX9_confidence_3 : decode cX9_confidence 3 = .ok (.iload_n 1, 1) := by decide +kernel
theorem dX9_confidence_4 : decode cX9_confidence 4 = .ok (.invokevirtual 120, 3) := by decide +kernel
theorem dX9_confidence_7 : decode cX9_confidence 7 = .ok (.getfield 185, 3) := by decide +kernel
theorem dX9_confidence_10 : decode cX9_confidence 10 = .ok (.i2d, 1) := by decide +kernel
theorem dX9_confidence_11 : decode cX9_confidence 11 = .ok (.dadd, 1) := by decide +kernel
theorem dX9_confidence_12 : decode cX9_confidence 12 = .ok (.ddiv, 1) := by decide +kernel
theorem dX9_confidence_13 : decode cX9_confidence 13 = .ok (.dreturn, 1) := by decide +kernel
set_option maxRecDepth 20000 in
theorem ggX9_isLate_X9_requirePrint : GoodIn wsX9_isLate wsX9_requirePrint := goodIn_ca (goodIn_r _ [6, 7, 8, 9, 10, 11, 12, 13, 14, 15, 16, 17, 28, 29, 30, 31, 32, 33, 34, 35, 36, 37, 38, 39, 40, 41, 42, 43, 44, 18, 19, 20, 21, 22, 23, 24, 25, 26, 27] (by decide +kernel) (by decide +kernel)) (goodIn_sub (fun _ h => List.mem_cons_of_mem _ (List.mem_append_right _ h)) (by decide +kernel))
set_option maxRecDepth 20000 in
theorem gX9_isLate_X9_requirePrint : GoodIn wsX9_isLate (wsV RX9 120 RX9 yX9_requirePrint wsX9_requirePrint) := goodIn_app (goodIn_of _ (by decide +kernel)) ggX9_isLate_X9_requirePrint
theorem dX9_isLate_0 : decode cX9_isLate 0 = .ok (.aload_n 0, 1) := by decide +kernel
theorem dX9_isLate_1 : decode cX9_isLate 1 = .ok (.iload_n 1, 1) := by decide +kernel
theorem dX9_isLate_2 : decode cX9_isLate 2 = .ok (.invokevirtual 120, 3) := by decide +kernel
theorem dX9_isLate_5 : decode cX9_isLate 5 = .ok (.getfield 188, 3) := by decide +kernel
theorem dX9_isLate_8 : decode cX9_isLate 8 = .ok (.ireturn, 1) := by decide +kernel
set_option maxRecDepth 20000 in
theorem ggX9_previousPrint_X9_requirePrint : GoodIn wsX9_previousPrint wsX9_requirePrint := goodIn_ca (goodIn_r _ [7, 8, 9, 1, 10, 11, 12, 13, 14, 15, 16, 17, 36, 37, 38, 39, 40, 41, 42, 43, 44, 45, 56, 57, 58, 59, 60, 61, 62, 46, 47, 48, 49, 50, 51, 52, 53, 54, 55] (by decide +kernel) (by decide +kernel)) (goodIn_sub (fun _ h => List.mem_cons_of_mem _ (List.mem_append_left _ (List.mem_append_right _ h))) (by decide +kernel))
set_option maxRecDepth 20000 in
theorem gX9_previousPrint_X9_requirePrint : GoodIn wsX9_previousPrint (wsV RX9 120 RX9 yX9_requirePrint wsX9_requirePrint) := goodIn_app (goodIn_of _ (by decide +kernel)) ggX9_previousPrint_X9_requirePrint
set_option maxRecDepth 20000 in
theorem ggX9_previousPrint_X0_before : GoodIn wsX9_previousPrint wsX0_before := goodIn_r _ [21, 15, 22, 23, 24, 25, 26, 27, 28, 29, 30, 56, 57, 58, 59, 60, 61, 62, 46, 47, 48, 49, 50, 51, 52, 53, 54, 55] (by decide +kernel) (by decide +kernel)
set_option maxRecDepth 20000 in
theorem gX9_previousPrint_X0_before : GoodIn wsX9_previousPrint (wsV RX9 191 RX0 yX0_before wsX0_before) := goodIn_app (goodIn_of _ (by decide +kernel)) ggX9_previousPrint_X0_before
set_option maxRecDepth 20000 in
theorem ggX9_previousPrint_X9_requireFound : GoodIn wsX9_previousPrint wsX9_requireFound := goodIn_ca (goodIn_r _ [33, 34, 35] (by decide +kernel) (by decide +kernel)) (goodIn_sub (fun _ h => List.mem_cons_of_mem _ (List.mem_append_right _ h)) (by decide +kernel))
set_option maxRecDepth 20000 in
theorem gX9_previousPrint_X9_requireFound : GoodIn wsX9_previousPrint (va_wsS RX9 195 yX9_requireFound wsX9_requireFound) := goodIn_app (goodIn_of _ (by decide +kernel)) ggX9_previousPrint_X9_requireFound
theorem dX9_previousPrint_0 : decode cX9_previousPrint 0 = .ok (.aload_n 0, 1) := by decide +kernel
theorem dX9_previousPrint_1 : decode cX9_previousPrint 1 = .ok (.getfield 12, 3) := by decide +kernel
theorem dX9_previousPrint_4 : decode cX9_previousPrint 4 = .ok (.aload_n 0, 1) := by decide +kernel
theorem dX9_previousPrint_5 : decode cX9_previousPrint 5 = .ok (.iload_n 1, 1) := by decide +kernel
theorem dX9_previousPrint_6 : decode cX9_previousPrint 6 = .ok (.invokevirtual 120, 3) := by decide +kernel
theorem dX9_previousPrint_9 : decode cX9_previousPrint 9 = .ok (.invokevirtual 191, 3) := by decide +kernel
theorem dX9_previousPrint_12 : decode cX9_previousPrint 12 = .ok (.invokestatic 195, 3) := by decide +kernel
theorem dX9_previousPrint_15 : decode cX9_previousPrint 15 = .ok (.getfield 198, 3) := by decide +kernel
theorem dX9_previousPrint_18 : decode cX9_previousPrint 18 = .ok (.ireturn, 1) := by decide +kernel
set_option maxRecDepth 20000 in
theorem ggX9_nextPrint_X9_requirePrint : GoodIn wsX9_nextPrint wsX9_requirePrint := goodIn_ca (goodIn_r _ [7, 8, 9, 1, 10, 11, 12, 13, 14, 15, 16, 17, 36, 37, 38, 39, 40, 41, 42, 43, 44, 45, 56, 57, 58, 59, 60, 61, 62, 46, 47, 48, 49, 50, 51, 52, 53, 54, 55] (by decide +kernel) (by decide +kernel)) (goodIn_sub (fun _ h => List.mem_cons_of_mem _ (List.mem_append_left _ (List.mem_append_right _ h))) (by decide +kernel))
set_option maxRecDepth 20000 in
theorem gX9_nextPrint_X9_requirePrint : GoodIn wsX9_nextPrint (wsV RX9 120 RX9 yX9_requirePrint wsX9_requirePrint) := goodIn_app (goodIn_of _ (by decide +kernel)) ggX9_nextPrint_X9_requirePrint
set_option maxRecDepth 20000 in
theorem ggX9_nextPrint_X0_after : GoodIn wsX9_nextPrint wsX0_after := goodIn_r _ [21, 15, 22, 23, 24, 25, 26, 27, 28, 29, 30, 56, 57, 58, 59, 60, 61, 62, 46, 47, 48, 49, 50, 51, 52, 53, 54, 55] (by decide +kernel) (by decide +kernel)
set_option maxRecDepth 20000 in
theorem gX9_nextPrint_X0_after : GoodIn wsX9_nextPrint (wsV RX9 201 RX0 yX0_after wsX0_after) := goodIn_app (goodIn_of _ (by decide +kernel)) ggX9_nextPrint_X0_after
set_option maxRecDepth 20000 in
theorem ggX9_nextPrint_X9_requireFound : GoodIn wsX9_nextPrint wsX9_requireFound := goodIn_ca (goodIn_r _ [33, 34, 35] (by decide +kernel) (by decide +kernel)) (goodIn_sub (fun _ h => List.mem_cons_of_mem _ (List.mem_append_right _ h)) (by decide +kernel))
set_option maxRecDepth 20000 in
theorem gX9_nextPrint_X9_requireFound : GoodIn wsX9_nextPrint (va_wsS RX9 195 yX9_requireFound wsX9_requireFound) := goodIn_app (goodIn_of _ (by decide +kernel)) ggX9_nextPrint_X9_requireFound
theorem dX9_nextPrint_0 : decode cX9_nextPrint 0 = .ok (.aload_n 0, 1) := by decide +kernel
theorem dX9_nextPrint_1 : decode cX9_nextPrint 1 = .ok (.getfield 12, 3) := by decide +kernel
theorem dX9_nextPrint_4 : decode cX9_nextPrint 4 = .ok (.aload_n 0, 1) := by decide +kernel
theorem dX9_nextPrint_5 : decode cX9_nextPrint 5 = .ok (.iload_n 1, 1) := by decide +kernel
theorem dX9_nextPrint_6 : decode cX9_nextPrint 6 = .ok (.invokevirtual 120, 3) := by decide +kernel
theorem dX9_nextPrint_9 : decode cX9_nextPrint 9 = .ok (.invokevirtual 201, 3) := by decide +kernel
theorem dX9_nextPrint_12 : decode cX9_nextPrint 12 = .ok (.invokestatic 195, 3) := by decide +kernel
theorem dX9_nextPrint_15 : decode cX9_nextPrint 15 = .ok (.getfield 198, 3) := by decide +kernel
theorem dX9_nextPrint_18 : decode cX9_nextPrint 18 = .ok (.ireturn, 1) := by decide +kernel
set_option maxRecDepth 20000 in
theorem ggX9_strideOf_X9_requirePrint : GoodIn wsX9_strideOf wsX9_requirePrint := goodIn_ca (goodIn_r _ [8, 9, 10, 1, 11, 12, 13, 14, 15, 16, 17, 18, 47, 48, 49, 50, 51, 52, 53, 54, 55, 56, 67, 68, 69, 70, 71, 72, 73, 57, 58, 59, 60, 61, 62, 63, 64, 65, 66] (by decide +kernel) (by decide +kernel)) (goodIn_sub (fun _ h => List.mem_cons_of_mem _ (List.mem_append_left _ (List.mem_append_right _ h))) (by decide +kernel))
set_option maxRecDepth 20000 in
theorem gX9_strideOf_X9_requirePrint : GoodIn wsX9_strideOf (wsV RX9 120 RX9 yX9_requirePrint wsX9_requirePrint) := goodIn_app (goodIn_of _ (by decide +kernel)) ggX9_strideOf_X9_requirePrint
set_option maxRecDepth 20000 in
theorem ggX9_strideOf_X0_before : GoodIn wsX9_strideOf wsX0_before := goodIn_r _ [22, 16, 23, 24, 25, 26, 27, 28, 29, 30, 31, 67, 68, 69, 70, 71, 72, 73, 57, 58, 59, 60, 61, 62, 63, 64, 65, 66] (by decide +kernel) (by decide +kernel)
set_option maxRecDepth 20000 in
theorem gX9_strideOf_X0_before : GoodIn wsX9_strideOf (wsV RX9 191 RX0 yX0_before wsX0_before) := goodIn_app (goodIn_of _ (by decide +kernel)) ggX9_strideOf_X0_before
set_option maxRecDepth 20000 in
theorem ggX9_strideOf_X9_requireFound : GoodIn wsX9_strideOf wsX9_requireFound := goodIn_ca (goodIn_r _ [34, 35, 36] (by decide +kernel) (by decide +kernel)) (goodIn_sub (fun _ h => List.mem_cons_of_mem _ (List.mem_append_right _ h)) (by decide +kernel))
set_option maxRecDepth 20000 in
theorem gX9_strideOf_X9_requireFound : GoodIn wsX9_strideOf (va_wsS RX9 195 yX9_requireFound wsX9_requireFound) := goodIn_app (goodIn_of _ (by decide +kernel)) ggX9_strideOf_X9_requireFound
set_option maxRecDepth 20000 in
theorem ggX9_strideOf_X3_distanceTo : GoodIn wsX9_strideOf wsX3_distanceTo := goodIn_r _ [40, 41, 42, 43, 44, 45, 46, 57, 58, 59, 60, 61, 62, 63, 64, 65, 66] (by decide +kernel) (by decide +kernel)
set_option maxRecDepth 20000 in
theorem gX9_strideOf_X3_distanceTo : GoodIn wsX9_strideOf (wsV RX9 204 RX3 yX3_distanceTo wsX3_distanceTo) := goodIn_app (goodIn_of _ (by decide +kernel)) ggX9_strideOf_X3_distanceTo
theorem dX9_strideOf_0 : decode cX9_strideOf 0 = .ok (.aload_n 0, 1) := by decide +kernel
theorem dX9_strideOf_1 : decode cX9_strideOf 1 = .ok (.iload_n 1, 1) := by decide +kernel
theorem dX9_strideOf_2 : decode cX9_strideOf 2 = .ok (.invokevirtual 120, 3) := by decide +kernel
theorem dX9_strideOf_5 : decode cX9_strideOf 5 = .ok (.astore_n 2, 1) := by decide +kernel
theorem dX9_strideOf_6 : decode cX9_strideOf 6 = .ok (.aload_n 0, 1) := by decide +kernel
theorem dX9_strideOf_7 : decode cX9_strideOf 7 = .ok (.getfield 12, 3) := by decide +kernel
theorem dX9_strideOf_10 : decode cX9_strideOf 10 = .ok (.aload_n 2, 1) := by decide +kernel
theorem dX9_strideOf_11 : decode cX9_strideOf 11 = .ok (.invokevirtual 191, 3) := by decide +kernel
theorem dX9_strideOf_14 : decode cX9_strideOf 14 = .ok (.invokestatic 195, 3) := by decide +kernel
theorem dX9_strideOf_17 : decode cX9_strideOf 17 = .ok (.astore_n 3, 1) := by decide +kernel
theorem dX9_strideOf_18 : decode cX9_strideOf 18 = .ok (.aload_n 2, 1) := by decide +kernel
theorem dX9_strideOf_19 : decode cX9_strideOf 19 = .ok (.aload_n 3, 1) := by decide +kernel
theorem dX9_strideOf_20 : decode cX9_strideOf 20 = .ok (.getfield 173, 3) := by decide +kernel
theorem dX9_strideOf_23 : decode cX9_strideOf 23 = .ok (.aload_n 3, 1) := by decide +kernel
theorem dX9_strideOf_24 : decode cX9_strideOf 24 = .ok (.getfield 176, 3) := by decide +kernel
theorem dX9_strideOf_27 : decode cX9_strideOf 27 = .ok (.invokevirtual 204, 3) := by decide +kernel
theorem dX9_strideOf_30 : decode cX9_strideOf 30 = .ok (.ireturn, 1) := by decide +kernel
set_option maxRecDepth 20000 in
theorem ggX9_hasStrideError_X9_requirePrint : GoodIn wsX9_hasStrideError wsX9_requirePrint := goodIn_ca (goodIn_r _ [6, 7, 8, 9, 10, 11, 12, 13, 14, 15, 16, 17, 62, 63, 64, 65, 66, 67, 68, 69, 70, 71, 72, 73, 74, 75, 76, 77, 78, 79, 80, 81, 82, 83, 84, 85, 86, 87, 88] (by decide +kernel) (by decide +kernel)) (goodIn_sub (fun _ h => List.mem_cons_of_mem _ (List.mem_append_right _ h)) (by decide +kernel))
set_option maxRecDepth 20000 in
theorem gX9_hasStrideError_X9_requirePrint : GoodIn wsX9_hasStrideError (wsV RX9 120 RX9 yX9_requirePrint wsX9_requirePrint) := goodIn_app (goodIn_of _ (by decide +kernel)) ggX9_hasStrideError_X9_requirePrint
set_option maxRecDepth 20000 in
theorem ggX9_hasStrideError_X4_strideIsWrong : GoodIn wsX9_hasStrideError wsX4_strideIsWrong := goodIn_r _ [22, 23, 24, 25, 26, 13, 27, 15, 28, 29, 30, 31, 32, 33, 34, 35, 36, 37, 38, 39, 21, 40, 41, 42, 43, 44, 45, 46, 47, 48, 49, 50, 51, 52, 53, 54, 55, 56, 57, 58, 59, 60, 61, 89, 72, 73, 74, 75, 76, 77, 78, 79, 80, 81, 82, 83, 84, 85, 86, 87, 88, 90, 91, 92] (by decide +kernel) (by decide +kernel)
set_option maxRecDepth 20000 in
theorem gX9_hasStrideError_X4_strideIsWrong : GoodIn wsX9_hasStrideError (wsV RX9 208 RX4 yX4_strideIsWrong wsX4_strideIsWrong) := goodIn_app (goodIn_of _ (by decide +kernel)) ggX9_hasStrideError_X4_strideIsWrong
theorem dX9_hasStrideError_0 : decode cX9_hasStrideError 0 = .ok (.aload_n 0, 1) := by decide +kernel
theorem dX9_hasStrideError_1 : decode cX9_hasStrideError 1 = .ok (.getfield 21, 3) := by decide +kernel
theorem dX9_hasStrideError_4 : decode cX9_hasStrideError 4 = .ok (.aload_n 0, 1) := by decide +kernel
theorem dX9_hasStrideError_5 : decode cX9_hasStrideError 5 = .ok (.iload_n 1, 1) := by decide +kernel
theorem dX9_hasStrideError_6 : decode cX9_hasStrideError 6 = .ok (.invokevirtual 120, 3) := by decide +kernel
theorem dX9_hasStrideError_9 : decode cX9_hasStrideError 9 = .ok (.invokevirtual 208, 3) := by decide +kernel
theorem dX9_hasStrideError_12 : decode cX9_hasStrideError 12 = .ok (.ireturn, 1) := by decide +kernel
set_option maxRecDepth 20000 in
theorem ggX9_hasFootError_X9_requirePrint : GoodIn wsX9_hasFootError wsX9_requirePrint := goodIn_ca (goodIn_r _ [6, 7, 8, 9, 10, 11, 12, 13, 14, 15, 16, 17, 42, 43, 44, 45, 46, 47, 48, 49, 50, 51, 52, 53, 54, 55, 56, 57, 58, 59, 60, 61, 62, 63, 64, 65, 66, 67, 68] (by decide +kernel) (by decide +kernel)) (goodIn_sub (fun _ h => List.mem_cons_of_mem _ (List.mem_append_right _ h)) (by decide +kernel))
set_option maxRecDepth 20000 in
theorem gX9_hasFootError_X9_requirePrint : GoodIn wsX9_hasFootError (wsV RX9 120 RX9 yX9_requirePrint wsX9_requirePrint) := goodIn_app (goodIn_of _ (by decide +kernel)) ggX9_hasFootError_X9_requirePrint
set_option maxRecDepth 20000 in
theorem ggX9_hasFootError_X4_footIsWrong : GoodIn wsX9_hasFootError wsX4_footIsWrong := goodIn_r _ [22, 23, 24, 25, 26, 13, 27, 15, 28, 29, 30, 31, 32, 33, 34, 35, 36, 37, 38, 39, 21, 40, 41, 69, 52, 53, 54, 55, 56, 57, 58, 59, 60, 61, 62, 63, 64, 65, 66, 67, 68] (by decide +kernel) (by decide +kernel)
set_option maxRecDepth 20000 in
theorem gX9_hasFootError_X4_footIsWrong : GoodIn wsX9_hasFootError (wsV RX9 212 RX4 yX4_footIsWrong wsX4_footIsWrong) := goodIn_app (goodIn_of _ (by decide +kernel)) ggX9_hasFootError_X4_footIsWrong
theorem dX9_hasFootError_0 : decode cX9_hasFootError 0 = .ok (.aload_n 0, 1) := by decide +kernel
theorem dX9_hasFootError_1 : decode cX9_hasFootError 1 = .ok (.getfield 21, 3) := by decide +kernel
theorem dX9_hasFootError_4 : decode cX9_hasFootError 4 = .ok (.aload_n 0, 1) := by decide +kernel
theorem dX9_hasFootError_5 : decode cX9_hasFootError 5 = .ok (.iload_n 1, 1) := by decide +kernel
theorem dX9_hasFootError_6 : decode cX9_hasFootError 6 = .ok (.invokevirtual 120, 3) := by decide +kernel
theorem dX9_hasFootError_9 : decode cX9_hasFootError 9 = .ok (.invokevirtual 212, 3) := by decide +kernel
theorem dX9_hasFootError_12 : decode cX9_hasFootError 12 = .ok (.ireturn, 1) := by decide +kernel
set_option maxRecDepth 20000 in
theorem ggX9_hasDepthError_X9_requirePrint : GoodIn wsX9_hasDepthError wsX9_requirePrint := goodIn_ca (goodIn_r _ [6, 7, 8, 9, 10, 11, 12, 13, 14, 15, 16, 17, 46, 47, 48, 49, 50, 51, 52, 53, 54, 55, 56, 57, 58, 59, 60, 61, 62, 63, 64, 65, 66, 67, 68, 69, 70, 71, 72] (by decide +kernel) (by decide +kernel)) (goodIn_sub (fun _ h => List.mem_cons_of_mem _ (List.mem_append_right _ h)) (by decide +kernel))
set_option maxRecDepth 20000 in
theorem gX9_hasDepthError_X9_requirePrint : GoodIn wsX9_hasDepthError (wsV RX9 120 RX9 yX9_requirePrint wsX9_requirePrint) := goodIn_app (goodIn_of _ (by decide +kernel)) ggX9_hasDepthError_X9_requirePrint
set_option maxRecDepth 20000 in
theorem ggX9_hasDepthError_X4_depthIsWrong : GoodIn wsX9_hasDepthError wsX4_depthIsWrong := goodIn_r _ [22, 23, 24, 25, 26, 13, 27, 15, 28, 29, 30, 31, 32, 33, 34, 35, 36, 37, 38, 39, 21, 40, 41, 42, 43, 44, 45, 73, 56, 57, 58, 59, 60, 61, 62, 63, 64, 65, 66, 67, 68, 69, 70, 71, 72] (by decide +kernel) (by decide +kernel)
set_option maxRecDepth 20000 in
theorem gX9_hasDepthError_X4_depthIsWrong : GoodIn wsX9_hasDepthError (wsV RX9 215 RX4 yX4_depthIsWrong wsX4_depthIsWrong) := goodIn_app (goodIn_of _ (by decide +kernel)) ggX9_hasDepthError_X4_depthIsWrong
theorem dX9_hasDepthError_0 : decode cX9_hasDepthError 0 = .ok (.aload_n 0, 1) := by decide +kernel
theorem dX9_hasDepthError_1 : decode cX9_hasDepthError 1 = .ok (.getfield 21, 3) := by decide +kernel
theorem dX9_hasDepthError_4 : decode cX9_hasDepthError 4 = .ok (.aload_n 0, 1) := by decide +kernel
theorem dX9_hasDepthError_5 : decode cX9_hasDepthError 5 = .ok (.iload_n 1, 1) := by decide +kernel
theorem dX9_hasDepthError_6 : decode cX9_hasDepthError 6 = .ok (.invokevirtual 120, 3) := by decide +kernel
theorem dX9_hasDepthError_9 : decode cX9_hasDepthError 9 = .ok (.invokevirtual 215, 3) := by decide +kernel
theorem dX9_hasDepthError_12 : decode cX9_hasDepthError 12 = .ok (.ireturn, 1) := by decide +kernel
set_option maxRecDepth 20000 in
theorem ggX9_maxStride_X9_requireTrack : GoodIn wsX9_maxStride wsX9_requireTrack := goodIn_ca (goodIn_r _ [6, 7, 8, 9, 10, 11, 12, 13, 14, 15, 16, 17, 21, 22, 23, 24, 25, 26, 27, 28, 29, 30, 31, 32, 33, 34, 35, 36, 37, 18, 19, 20] (by decide +kernel) (by decide +kernel)) (goodIn_sub (fun _ h => List.mem_cons_of_mem _ (List.mem_append_right _ h)) (by decide +kernel))
set_option maxRecDepth 20000 in
theorem gX9_maxStride_X9_requireTrack : GoodIn wsX9_maxStride (wsV RX9 92 RX9 yX9_requireTrack wsX9_requireTrack) := goodIn_app (goodIn_of _ (by decide +kernel)) ggX9_maxStride_X9_requireTrack
theorem dX9_maxStride_0 : decode cX9_maxStride 0 = .ok (.aload_n 0, 1) := by decide +kernel
theorem dX9_maxStride_1 : decode cX9_maxStride 1 = .ok (.iload_n 1, 1) := by decide +kernel
theorem dX9_maxStride_2 : decode cX9_maxStride 2 = .ok (.invokevirtual 92, 3) := by decide +kernel
theorem dX9_maxStride_5 : decode cX9_maxStride 5 = .ok (.getfield 218, 3) := by decide +kernel
theorem dX9_maxStride_8 : decode cX9_maxStride 8 = .ok (.ireturn, 1) := by decide +kernel
set_option maxRecDepth 20000 in
theorem ggX9_printCount_X9_requireTrack : GoodIn wsX9_printCount wsX9_requireTrack := goodIn_ca (goodIn_r _ [6, 7, 8, 1, 9, 10, 11, 12, 13, 14, 15, 16, 34, 35, 36, 37, 38, 39, 40, 41, 42, 43, 44, 45, 46, 47, 48, 49, 50, 51, 52, 53] (by decide +kernel) (by decide +kernel)) (goodIn_sub (fun _ h => List.mem_cons_of_mem _ (List.mem_append_right _ h)) (by decide +kernel))
set_option maxRecDepth 20000 in
theorem gX9_printCount_X9_requireTrack : GoodIn wsX9_printCount (wsV RX9 92 RX9 yX9_requireTrack wsX9_requireTrack) := goodIn_app (goodIn_of _ (by decide +kernel)) ggX9_printCount_X9_requireTrack
set_option maxRecDepth 20000 in
theorem ggX9_printCount_X0_countPrints : GoodIn wsX9_printCount wsX0_countPrints := goodIn_r _ [20, 16, 21, 22, 23, 12, 24, 25, 26, 27, 28, 29, 30, 31, 32, 33, 51, 52, 53, 44, 45, 46, 47, 48, 49, 50, 54, 55, 56, 57, 58, 59, 60, 61, 62, 63] (by decide +kernel) (by decide +kernel)
set_option maxRecDepth 20000 in
theorem gX9_printCount_X0_countPrints : GoodIn wsX9_printCount (wsV RX9 223 RX0 yX0_countPrints wsX0_countPrints) := goodIn_app (goodIn_of _ (by decide +kernel)) ggX9_printCount_X0_countPrints
theorem dX9_printCount_0 : decode cX9_printCount 0 = .ok (.aload_n 0, 1) := by decide +kernel
theorem dX9_printCount_1 : decode cX9_printCount 1 = .ok (.getfield 12, 3) := by decide +kernel
theorem dX9_printCount_4 : decode cX9_printCount 4 = .ok (.aload_n 0, 1) := by decide +kernel
theorem dX9_printCount_5 : decode cX9_printCount 5 = .ok (.iload_n 1, 1) := by decide +kernel
theorem dX9_printCount_6 : decode cX9_printCount 6 = .ok (.invokevirtual 92, 3) := by decide +kernel
theorem dX9_printCount_9 : decode cX9_printCount 9 = .ok (.invokevirtual 223, 3) := by decide +kernel
theorem dX9_printCount_12 : decode cX9_printCount 12 = .ok (.ireturn, 1) := by decide +kernel
set_option maxRecDepth 20000 in
theorem ggX9_printAt_X9_requireTrack : GoodIn wsX9_printAt wsX9_requireTrack := goodIn_ca (goodIn_r _ [7, 8, 9, 1, 10, 11, 12, 13, 14, 15, 16, 17, 40, 41, 42, 43, 44, 45, 46, 47, 48, 49, 60, 61, 62, 63, 64, 65, 66, 67, 68, 69] (by decide +kernel) (by decide +kernel)) (goodIn_sub (fun _ h => List.mem_cons_of_mem _ (List.mem_append_left _ (List.mem_append_right _ h))) (by decide +kernel))
set_option maxRecDepth 20000 in
theorem gX9_printAt_X9_requireTrack : GoodIn wsX9_printAt (wsV RX9 92 RX9 yX9_requireTrack wsX9_requireTrack) := goodIn_app (goodIn_of _ (by decide +kernel)) ggX9_printAt_X9_requireTrack
set_option maxRecDepth 20000 in
theorem ggX9_printAt_X0_inPlace : GoodIn wsX9_printAt wsX0_inPlace := goodIn_r _ [21, 22, 17, 23, 24, 25, 26, 27, 28, 29, 30, 31, 32, 33, 13, 34, 60, 61, 62, 63, 64, 65, 66, 67, 68, 69, 50, 51, 52, 53, 54, 55, 56, 57, 58, 59] (by decide +kernel) (by decide +kernel)
set_option maxRecDepth 20000 in
theorem gX9_printAt_X0_inPlace : GoodIn wsX9_printAt (wsV RX9 226 RX0 yX0_inPlace wsX0_inPlace) := goodIn_app (goodIn_of _ (by decide +kernel)) ggX9_printAt_X0_inPlace
set_option maxRecDepth 20000 in
theorem ggX9_printAt_X9_requireFound : GoodIn wsX9_printAt wsX9_requireFound := goodIn_ca (goodIn_r _ [37, 38, 39] (by decide +kernel) (by decide +kernel)) (goodIn_sub (fun _ h => List.mem_cons_of_mem _ (List.mem_append_right _ h)) (by decide +kernel))
set_option maxRecDepth 20000 in
theorem gX9_printAt_X9_requireFound : GoodIn wsX9_printAt (va_wsS RX9 195 yX9_requireFound wsX9_requireFound) := goodIn_app (goodIn_of _ (by decide +kernel)) ggX9_printAt_X9_requireFound
theorem dX9_printAt_0 : decode cX9_printAt 0 = .ok (.aload_n 0, 1) := by decide +kernel
theorem dX9_printAt_1 : decode cX9_printAt 1 = .ok (.getfield 12, 3) := by decide +kernel
theorem dX9_printAt_4 : decode cX9_printAt 4 = .ok (.aload_n 0, 1) := by decide +kernel
theorem dX9_printAt_5 : decode cX9_printAt 5 = .ok (.iload_n 1, 1) := by decide +kernel
theorem dX9_printAt_6 : decode cX9_printAt 6 = .ok (.invokevirtual 92, 3) := by decide +kernel
theorem dX9_printAt_9 : decode cX9_printAt 9 = .ok (.iload_n 2, 1) := by decide +kernel
theorem dX9_printAt_10 : decode cX9_printAt 10 = .ok (.invokevirtual 226, 3) := by decide +kernel
theorem dX9_printAt_13 : decode cX9_printAt 13 = .ok (.invokestatic 195, 3) := by decide +kernel
theorem dX9_printAt_16 : decode cX9_printAt 16 = .ok (.getfield 198, 3) := by decide +kernel
theorem dX9_printAt_19 : decode cX9_printAt 19 = .ok (.ireturn, 1) := by decide +kernel
set_option maxRecDepth 20000 in
theorem ggX9_trackLength_X9_requireTrack : GoodIn wsX9_trackLength wsX9_requireTrack := goodIn_ca (goodIn_r _ [6, 7, 8, 9, 10, 11, 12, 13, 14, 15, 16, 17, 53, 54, 55, 56, 57, 58, 59, 60, 61, 62, 63, 64, 65, 66, 67, 68, 69, 70, 71, 72] (by decide +kernel) (by decide +kernel)) (goodIn_sub (fun _ h => List.mem_cons_of_mem _ (List.mem_append_right _ h)) (by decide +kernel))
set_option maxRecDepth 20000 in
theorem gX9_trackLength_X9_requireTrack : GoodIn wsX9_trackLength (wsV RX9 92 RX9 yX9_requireTrack wsX9_requireTrack) := goodIn_app (goodIn_of _ (by decide +kernel)) ggX9_trackLength_X9_requireTrack
set_option maxRecDepth 20000 in
theorem ggX9_trackLength_X4_lengthByPrints : GoodIn wsX9_trackLength wsX4_lengthByPrints := goodIn_r _ [22, 23, 24, 25, 26, 27, 28, 29, 30, 31, 32, 33, 34, 35, 36, 37, 13, 38, 39, 40, 41, 42, 43, 44, 45, 46, 47, 48, 49, 50, 51, 52, 73, 63, 64, 65, 66, 67, 68, 69, 70, 71, 72, 74, 75, 76, 77, 78, 79, 80, 81, 82, 83] (by decide +kernel) (by decide +kernel)
set_option maxRecDepth 20000 in
theorem gX9_trackLength_X4_lengthByPrints : GoodIn wsX9_trackLength (wsV RX9 230 RX4 yX4_lengthByPrints wsX4_lengthByPrints) := goodIn_app (goodIn_of _ (by decide +kernel)) ggX9_trackLength_X4_lengthByPrints
theorem dX9_trackLength_0 : decode cX9_trackLength 0 = .ok (.aload_n 0, 1) := by decide +kernel
theorem dX9_trackLength_1 : decode cX9_trackLength 1 = .ok (.getfield 21, 3) := by decide +kernel
theorem dX9_trackLength_4 : decode cX9_trackLength 4 = .ok (.aload_n 0, 1) := by decide +kernel
theorem dX9_trackLength_5 : decode cX9_trackLength 5 = .ok (.iload_n 1, 1) := by decide +kernel
theorem dX9_trackLength_6 : decode cX9_trackLength 6 = .ok (.invokevirtual 92, 3) := by decide +kernel
theorem dX9_trackLength_9 : decode cX9_trackLength 9 = .ok (.invokevirtual 230, 3) := by decide +kernel
theorem dX9_trackLength_12 : decode cX9_trackLength 12 = .ok (.ireturn, 1) := by decide +kernel
set_option maxRecDepth 20000 in
theorem ggX9_trackLengthAgain_X9_requireTrack : GoodIn wsX9_trackLengthAgain wsX9_requireTrack := goodIn_ca (goodIn_r _ [6, 7, 8, 9, 10, 11, 12, 13, 14, 15, 16, 17, 47, 48, 49, 50, 51, 52, 53, 54, 55, 56, 57, 58, 59, 60, 61, 62, 63, 64, 65, 66] (by decide +kernel) (by decide +kernel)) (goodIn_sub (fun _ h => List.mem_cons_of_mem _ (List.mem_append_right _ h)) (by decide +kernel))
set_option maxRecDepth 20000 in
theorem gX9_trackLengthAgain_X9_requireTrack : GoodIn wsX9_trackLengthAgain (wsV RX9 92 RX9 yX9_requireTrack wsX9_requireTrack) := goodIn_app (goodIn_of _ (by decide +kernel)) ggX9_trackLengthAgain_X9_requireTrack
set_option maxRecDepth 20000 in
theorem ggX9_trackLengthAgain_X4_lengthByDirections : GoodIn wsX9_trackLengthAgain wsX4_lengthByDirections := goodIn_r _ [22, 23, 24, 25, 26, 27, 28, 29, 30, 31, 32, 33, 34, 35, 36, 37, 38, 39, 40, 41, 13, 42, 43, 44, 45, 46, 67, 57, 58, 59, 60, 61, 62, 63, 64, 65, 66, 68, 69, 70, 71, 72, 73, 74, 75, 76, 77] (by decide +kernel) (by decide +kernel)
set_option maxRecDepth 20000 in
theorem gX9_trackLengthAgain_X4_lengthByDirections : GoodIn wsX9_trackLengthAgain (wsV RX9 233 RX4 yX4_lengthByDirections wsX4_lengthByDirections) := goodIn_app (goodIn_of _ (by decide +kernel)) ggX9_trackLengthAgain_X4_lengthByDirections
theorem dX9_trackLengthAgain_0 : decode cX9_trackLengthAgain 0 = .ok (.aload_n 0, 1) := by decide +kernel
theorem dX9_trackLengthAgain_1 : decode cX9_trackLengthAgain 1 = .ok (.getfield 21, 3) := by decide +kernel
theorem dX9_trackLengthAgain_4 : decode cX9_trackLengthAgain 4 = .ok (.aload_n 0, 1) := by decide +kernel
theorem dX9_trackLengthAgain_5 : decode cX9_trackLengthAgain 5 = .ok (.iload_n 1, 1) := by decide +kernel
theorem dX9_trackLengthAgain_6 : decode cX9_trackLengthAgain 6 = .ok (.invokevirtual 92, 3) := by decide +kernel
theorem dX9_trackLengthAgain_9 : decode cX9_trackLengthAgain 9 = .ok (.invokevirtual 233, 3) := by decide +kernel
theorem dX9_trackLengthAgain_12 : decode cX9_trackLengthAgain 12 = .ok (.ireturn, 1) := by decide +kernel
set_option maxRecDepth 20000 in
theorem ggX9_errorCount_X9_requireTrack : GoodIn wsX9_errorCount wsX9_requireTrack := goodIn_ca (goodIn_r _ [7, 8, 9, 10, 11, 12, 13, 14, 15, 16, 17, 18, 71, 72, 73, 74, 75, 76, 77, 78, 79, 80, 84, 85, 86, 87, 88, 89, 90, 81, 82, 83] (by decide +kernel) (by decide +kernel)) (goodIn_sub (fun _ h => List.mem_cons_of_mem _ (List.mem_append_right _ h)) (by decide +kernel))
set_option maxRecDepth 20000 in
theorem gX9_errorCount_X9_requireTrack : GoodIn wsX9_errorCount (wsV RX9 92 RX9 yX9_requireTrack wsX9_requireTrack) := goodIn_app (goodIn_of _ (by decide +kernel)) ggX9_errorCount_X9_requireTrack
set_option maxRecDepth 20000 in
theorem ggX9_errorCount_X4_errorsByPrints : GoodIn wsX9_errorCount wsX4_errorsByPrints := goodIn_r _ [23, 24, 25, 26, 27, 28, 29, 30, 31, 32, 33, 34, 35, 14, 36, 37, 38, 39, 40, 41, 42, 43, 22, 44, 45, 46, 47, 48, 49, 12, 13, 15, 16, 17, 18, 50, 51, 52, 53, 54, 55, 56, 57, 58, 59, 60, 61, 62, 63, 64, 65, 66, 67, 68, 69, 70, 91, 84, 85, 86, 87, 88, 89, 90, 92, 93, 94, 95, 96, 97, 98, 99, 100, 101, 81, 82, 83] (by decide +kernel) (by decide +kernel)
set_option maxRecDepth 20000 in
theorem gX9_errorCount_X4_errorsByPrints : GoodIn wsX9_errorCount (wsV RX9 237 RX4 yX4_errorsByPrints wsX4_errorsByPrints) := goodIn_app (goodIn_of _ (by decide +kernel)) ggX9_errorCount_X4_errorsByPrints
theorem dX9_errorCount_0 : decode cX9_errorCount 0 = .ok (.aload_n 0, 1) := by decide +kernel
theorem dX9_errorCount_1 : decode cX9_errorCount 1 = .ok (.getfield 21, 3) := by decide +kernel
theorem dX9_errorCount_4 : decode cX9_errorCount 4 = .ok (.aload_n 0, 1) := by decide +kernel
theorem dX9_errorCount_5 : decode cX9_errorCount 5 = .ok (.iload_n 1, 1) := by decide +kernel
theorem dX9_errorCount_6 : decode cX9_errorCount 6 = .ok (.invokevirtual 92, 3) := by decide +kernel
theorem dX9_errorCount_9 : decode cX9_errorCount 9 = .ok (.getfield 236, 3) := by decide +kernel
theorem dX9_errorCount_12 : decode cX9_errorCount 12 = .ok (.invokevirtual 237, 3) := by decide +kernel
theorem dX9_errorCount_15 : decode cX9_errorCount 15 = .ok (.ireturn, 1) := by decide +kernel
set_option maxRecDepth 20000 in
theorem ggX9_errorCountAgain_X9_requireTrack : GoodIn wsX9_errorCountAgain wsX9_requireTrack := goodIn_ca (goodIn_r _ [7, 8, 9, 10, 11, 12, 13, 14, 15, 16, 17, 18, 71, 72, 73, 74, 75, 76, 77, 78, 79, 80, 84, 85, 86, 87, 88, 89, 90, 81, 82, 83] (by decide +kernel) (by decide +kernel)) (goodIn_sub (fun _ h => List.mem_cons_of_mem _ (List.mem_append_right _ h)) (by decide +kernel))
set_option maxRecDepth 20000 in
theorem gX9_errorCountAgain_X9_requireTrack : GoodIn wsX9_errorCountAgain (wsV RX9 92 RX9 yX9_requireTrack wsX9_requireTrack) := goodIn_app (goodIn_of _ (by decide +kernel)) ggX9_errorCountAgain_X9_requireTrack
set_option maxRecDepth 20000 in
theorem ggX9_errorCountAgain_X4_errorsByKinds : GoodIn wsX9_errorCountAgain wsX4_errorsByKinds := goodIn_r _ [23, 24, 25, 26, 27, 28, 29, 30, 31, 32, 33, 34, 35, 14, 36, 37, 38, 39, 40, 41, 42, 43, 22, 44, 45, 46, 47, 48, 49, 12, 13, 15, 16, 17, 18, 50, 51, 52, 53, 54, 55, 56, 57, 58, 59, 60, 61, 62, 63, 64, 65, 66, 67, 68, 69, 70, 91, 84, 85, 86, 87, 88, 89, 90, 92, 93, 94, 95, 96, 97, 98, 99, 100, 101, 81, 82, 83] (by decide +kernel) (by decide +kernel)
set_option maxRecDepth 20000 in
theorem gX9_errorCountAgain_X4_errorsByKinds : GoodIn wsX9_errorCountAgain (wsV RX9 240 RX4 yX4_errorsByKinds wsX4_errorsByKinds) := goodIn_app (goodIn_of _ (by decide +kernel)) ggX9_errorCountAgain_X4_errorsByKinds
theorem dX9_errorCountAgain_0 : decode cX9_errorCountAgain 0 = .ok (.aload_n 0, 1) := by decide +kernel
theorem dX9_errorCountAgain_1 : decode cX9_errorCountAgain 1 = .ok (.getfield 21, 3) := by decide +kernel
theorem dX9_errorCountAgain_4 : decode cX9_errorCountAgain 4 = .ok (.aload_n 0, 1) := by decide +kernel
theorem dX9_errorCountAgain_5 : decode cX9_errorCountAgain 5 = .ok (.iload_n 1, 1) := by decide +kernel
theorem dX9_errorCountAgain_6 : decode cX9_errorCountAgain 6 = .ok (.invokevirtual 92, 3) := by decide +kernel
theorem dX9_errorCountAgain_9 : decode cX9_errorCountAgain 9 = .ok (.getfield 236, 3) := by decide +kernel
theorem dX9_errorCountAgain_12 : decode cX9_errorCountAgain 12 = .ok (.invokevirtual 240, 3) := by decide +kernel
theorem dX9_errorCountAgain_15 : decode cX9_errorCountAgain 15 = .ok (.ireturn, 1) := by decide +kernel
set_option maxRecDepth 20000 in
theorem ggX9_duration_X9_requireTrack : GoodIn wsX9_duration wsX9_requireTrack := goodIn_ca (goodIn_r _ [7, 8, 9, 1, 10, 11, 12, 13, 14, 15, 16, 17, 44, 45, 46, 47, 48, 49, 50, 51, 52, 53, 64, 65, 66, 67, 68, 69, 70, 71, 72, 73] (by decide +kernel) (by decide +kernel)) (goodIn_sub (fun _ h => List.mem_cons_of_mem _ (List.mem_append_left _ (List.mem_append_right _ h))) (by decide +kernel))
set_option maxRecDepth 20000 in
theorem gX9_duration_X9_requireTrack : GoodIn wsX9_duration (wsV RX9 92 RX9 yX9_requireTrack wsX9_requireTrack) := goodIn_app (goodIn_of _ (by decide +kernel)) ggX9_duration_X9_requireTrack
set_option maxRecDepth 20000 in
theorem ggX9_duration_X0_inPlace : GoodIn wsX9_duration wsX0_inPlace := goodIn_r _ [21, 22, 17, 23, 24, 25, 26, 27, 28, 29, 30, 31, 32, 33, 13, 34, 64, 65, 66, 67, 68, 69, 70, 71, 72, 73, 54, 55, 56, 57, 58, 59, 60, 61, 62, 63] (by decide +kernel) (by decide +kernel)
set_option maxRecDepth 20000 in
theorem gX9_duration_X0_inPlace : GoodIn wsX9_duration (wsV RX9 226 RX0 yX0_inPlace wsX0_inPlace) := goodIn_app (goodIn_of _ (by decide +kernel)) ggX9_duration_X0_inPlace
set_option maxRecDepth 20000 in
theorem ggX9_duration_X9_requireFound : GoodIn wsX9_duration wsX9_requireFound := goodIn_ca (goodIn_r _ [37, 38, 39] (by decide +kernel) (by decide +kernel)) (goodIn_sub (fun _ h => List.mem_cons_of_mem _ (List.mem_append_right _ h)) (by decide +kernel))
set_option maxRecDepth 20000 in
theorem gX9_duration_X9_requireFound : GoodIn wsX9_duration (va_wsS RX9 195 yX9_requireFound wsX9_requireFound) := goodIn_app (goodIn_of _ (by decide +kernel)) ggX9_duration_X9_requireFound
set_option maxRecDepth 20000 in
theorem ggX9_duration_X0_countPrints : GoodIn wsX9_duration wsX0_countPrints := goodIn_r _ [43, 17, 31, 32, 33, 13, 34, 22, 23, 24, 25, 26, 27, 28, 29, 30, 71, 72, 73, 64, 65, 66, 67, 68, 69, 70, 54, 55, 56, 57, 58, 59, 60, 61, 62, 63] (by decide +kernel) (by decide +kernel)
set_option maxRecDepth 20000 in
theorem gX9_duration_X0_countPrints : GoodIn wsX9_duration (wsV RX9 223 RX0 yX0_countPrints wsX0_countPrints) := goodIn_app (goodIn_of _ (by decide +kernel)) ggX9_duration_X0_countPrints
theorem dX9_duration_0 : decode cX9_duration 0 = .ok (.aload_n 0, 1) := by decide +kernel
theorem dX9_duration_1 : decode cX9_duration 1 = .ok (.iload_n 1, 1) := by decide +kernel
theorem dX9_duration_2 : decode cX9_duration 2 = .ok (.invokevirtual 92, 3) := by decide +kernel
theorem dX9_duration_5 : decode cX9_duration 5 = .ok (.astore_n 2, 1) := by decide +kernel
theorem dX9_duration_6 : decode cX9_duration 6 = .ok (.aload_n 0, 1) := by decide +kernel
theorem dX9_duration_7 : decode cX9_duration 7 = .ok (.getfield 12, 3) := by decide +kernel
theorem dX9_duration_10 : decode cX9_duration 10 = .ok (.aload_n 2, 1) := by decide +kernel
theorem dX9_duration_11 : decode cX9_duration 11 = .ok (.iconst 0, 1) := by decide +kernel
theorem dX9_duration_12 : decode cX9_duration 12 = .ok (.invokevirtual 226, 3) := by decide +kernel
theorem dX9_duration_15 : decode cX9_duration 15 = .ok (.invokestatic 195, 3) := by decide +kernel
theorem dX9_duration_18 : decode cX9_duration 18 = .ok (.astore_n 3, 1) := by decide +kernel
theorem dX9_duration_19 : decode cX9_duration 19 = .ok (.aload_n 0, 1) := by decide +kernel
theorem dX9_duration_20 : decode cX9_duration 20 = .ok (.getfield 12, 3) := by decide +kernel
theorem dX9_duration_23 : decode cX9_duration 23 = .ok (.aload_n 2, 1) := by decide +kernel
theorem dX9_duration_24 : decode cX9_duration 24 = .ok (.aload_n 0, 1) := by decide +kernel
theorem dX9_duration_25 : decode cX9_duration 25 = .ok (.getfield 12, 3) := by decide +kernel
theorem dX9_duration_28 : decode cX9_duration 28 = .ok (.aload_n 2, 1) := by decide +kernel
theorem dX9_duration_29 : decode cX9_duration 29 = .ok (.invokevirtual 223, 3) := by decide +kernel
theorem dX9_duration_32 : decode cX9_duration 32 = .ok (.iconst 1, 1) := by decide +kernel
theorem dX9_duration_33 : decode cX9_duration 33 = .ok (.isub, 1) := by decide +kernel
theorem dX9_duration_34 : decode cX9_duration 34 = .ok (.invokevirtual 226, 3) := by decide +kernel
theorem dX9_duration_37 : decode cX9_duration 37 = .ok (.invokestatic 195, 3) := by decide +kernel
theorem dX9_duration_40 : decode cX9_duration 40 = .ok (.astore 4, 2) := by decide +kernel
theorem dX9_duration_42 : decode cX9_duration 42 = .ok (.aload 4, 2) := by decide +kernel
theorem dX9_duration_44 : decode cX9_duration 44 = .ok (.getfield 170, 3) := by decide +kernel
theorem dX9_duration_47 : decode cX9_duration 47 = .ok (.aload_n 3, 1) := by decide +kernel
theorem dX9_duration_48 : decode cX9_duration 48 = .ok (.getfield 170, 3) := by decide +kernel
theorem dX9_duration_51 : decode cX9_duration 51 = .ok (.isub, 1) := by decide +kernel
theorem dX9_duration_52 : decode cX9_duration 52 = .ok (.ireturn, 1) := by decide +kernel
set_option maxRecDepth 20000 in
theorem ggX9_averageStride_X9_requireTrack : GoodIn wsX9_averageStride wsX9_requireTrack := goodIn_ca (goodIn_r _ [9, 10, 11, 3, 12, 13, 14, 15, 16, 17, 18, 19, 63, 64, 65, 66, 67, 68, 69, 70, 71, 72, 73, 74, 75, 76, 77, 78, 79, 80, 81, 82] (by decide +kernel) (by decide +kernel)) (goodIn_sub (fun _ h => List.mem_cons_of_mem _ (List.mem_append_right _ h)) (by decide +kernel))
set_option maxRecDepth 20000 in
theorem gX9_averageStride_X9_requireTrack : GoodIn wsX9_averageStride (wsV RX9 92 RX9 yX9_requireTrack wsX9_requireTrack) := goodIn_app (goodIn_of _ (by decide +kernel)) ggX9_averageStride_X9_requireTrack
set_option maxRecDepth 20000 in
theorem ggX9_averageStride_X0_countPrints : GoodIn wsX9_averageStride wsX0_countPrints := goodIn_r _ [23, 19, 24, 25, 26, 15, 27, 28, 29, 30, 31, 32, 33, 34, 35, 36, 80, 81, 82, 73, 74, 75, 76, 77, 78, 79, 83, 84, 85, 86, 87, 88, 89, 90, 91, 92] (by decide +kernel) (by decide +kernel)
set_option maxRecDepth 20000 in
theorem gX9_averageStride_X0_countPrints : GoodIn wsX9_averageStride (wsV RX9 223 RX0 yX0_countPrints wsX0_countPrints) := goodIn_app (goodIn_of _ (by decide +kernel)) ggX9_averageStride_X0_countPrints
set_option maxRecDepth 20000 in
theorem ggX9_averageStride_X4_lengthByPrints : GoodIn wsX9_averageStride wsX4_lengthByPrints := goodIn_r _ [41, 42, 43, 44, 45, 46, 47, 31, 32, 33, 34, 35, 36, 48, 49, 50, 15, 51, 28, 52, 29, 30, 53, 54, 55, 56, 57, 58, 59, 60, 61, 62, 93, 73, 74, 75, 76, 77, 78, 79, 80, 81, 82, 83, 84, 85, 86, 87, 88, 89, 90, 91, 92] (by decide +kernel) (by decide +kernel)
set_option maxRecDepth 20000 in
theorem gX9_averageStride_X4_lengthByPrints : GoodIn wsX9_averageStride (wsV RX9 230 RX4 yX4_lengthByPrints wsX4_lengthByPrints) := goodIn_app (goodIn_of _ (by decide +kernel)) ggX9_averageStride_X4_lengthByPrints
theorem dX9_averageStride_0 : decode cX9_averageStride 0 = .ok (.aload_n 0, 1) := by decide +kernel
theorem dX9_averageStride_1 : decode cX9_averageStride 1 = .ok (.iload_n 1, 1) := by decide +kernel
theorem dX9_averageStride_2 : decode cX9_averageStride 2 = .ok (.invokevirtual 92, 3) := by decide +kernel
theorem dX9_averageStride_5 : decode cX9_averageStride 5 = .ok (.astore_n 2, 1) := by decide +kernel
theorem dX9_averageStride_6 : decode cX9_averageStride 6 = .ok (.aload_n 0, 1) := by decide +kernel
theorem dX9_averageStride_7 : decode cX9_averageStride 7 = .ok (.getfield 12, 3) := by decide +kernel
theorem dX9_averageStride_10 : decode cX9_averageStride 10 = .ok (.aload_n 2, 1) := by decide +kernel
theorem dX9_averageStride_11 : decode cX9_averageStride 11 = .ok (.invokevirtual 223, 3) := by decide +kernel
theorem dX9_averageStride_14 : decode cX9_averageStride 14 = .ok (.iconst 1, 1) := by decide +kernel
theorem dX9_averageStride_15 : decode cX9_averageStride 15 = .ok (.isub, 1) := by decide +kernel
theorem dX9_averageStride_16 : decode cX9_averageStride 16 = .ok (.istore_n 3, 1) := by decide +kernel
theorem dX9_averageStride_17 : decode cX9_averageStride 17 = .ok (.iload_n 3, 1) := by decide +kernel
theorem dX9_averageStride_18 : decode cX9_averageStride 18 = .ok (.iconst 1, 1) := by decide +kernel
theorem dX9_averageStride_19 : decode cX9_averageStride 19 = .ok (.if_icmp .ge 13, 3) := by decide +kernel
theorem dX9_averageStride_22 : decode cX9_averageStride 22 = .ok (.new 243, 3) := by decide +kernel
theorem dX9_averageStride_25 : decode cX9_averageStride 25 = .ok (.dup, 1) := by decide +kernel
theorem dX9_averageStride_26 : decode cX9_averageStride 26 = .ok (.ldc 245, 2) := by decide +kernel
theorem dX9_averageStride_28 : decode cX9_averageStride 28 = .ok (.invokespecial 247, 3) := by decide +kernel
theorem dX9_averageStride_31 : decode cX9_averageStride 31 = .ok (.athrow, 1) := by decide +kernel
theorem dX9_averageStride_32 : decode cX9_averageStride 32 = .ok (.aload_n 0, 1) := by decide +kernel
theorem dX9_averageStride_33 : decode cX9_averageStride 33 = .ok (.getfield 21, 3) := by decide +kernel
theorem dX9_averageStride_36 : decode cX9_averageStride 36 = .ok (.aload_n 2, 1) := by decide +kernel
theorem dX9_averageStride_37 : decode cX9_averageStride 37 = .ok (.invokevirtual 230, 3) := by decide +kernel
theorem dX9_averageStride_40 : decode cX9_averageStride 40 = .ok (.i2d, 1) := by decide +kernel
theorem dX9_averageStride_41 : decode cX9_averageStride 41 = .ok (.iload_n 3, 1) := by decide +kernel
theorem dX9_averageStride_42 : decode cX9_averageStride 42 = .ok (.i2d, 1) := by decide +kernel
theorem dX9_averageStride_43 : decode cX9_averageStride 43 = .ok (.ddiv, 1) := by decide +kernel
theorem dX9_averageStride_44 : decode cX9_averageStride 44 = .ok (.dreturn, 1) := by decide +kernel
set_option maxRecDepth 20000 in
theorem ggX9_errorsIfMoved_X9_requirePrint : GoodIn wsX9_errorsIfMoved wsX9_requirePrint := goodIn_ca (goodIn_r _ [6, 7, 8, 9, 10, 11, 12, 13, 14, 15, 16, 17, 88, 89, 90, 91, 92, 93, 94, 95, 96, 97, 98, 99, 100, 101, 102, 103, 104, 105, 106, 107, 108, 109, 110, 111, 112, 113, 114] (by decide +kernel) (by decide +kernel)) (goodIn_sub (fun _ h => List.mem_cons_of_mem _ (List.mem_append_right _ h)) (by decide +kernel))
set_option maxRecDepth 20000 in
theorem gX9_errorsIfMoved_X9_requirePrint : GoodIn wsX9_errorsIfMoved (wsV RX9 120 RX9 yX9_requirePrint wsX9_requirePrint) := goodIn_app (goodIn_of _ (by decide +kernel)) ggX9_errorsIfMoved_X9_requirePrint
set_option maxRecDepth 20000 in
theorem ggX9_errorsIfMoved_X9_requireCell : GoodIn wsX9_errorsIfMoved wsX9_requireCell := goodIn_ca (goodIn_r _ [20, 7, 8, 21, 22, 5, 23, 24, 25, 26] (by decide +kernel) (by decide +kernel)) (goodIn_sub (fun _ h => List.mem_cons_of_mem _ (List.mem_append_right _ h)) (by decide +kernel))
set_option maxRecDepth 20000 in
theorem gX9_errorsIfMoved_X9_requireCell : GoodIn wsX9_errorsIfMoved (va_wsS RX9 100 yX9_requireCell wsX9_requireCell) := goodIn_app (goodIn_of _ (by decide +kernel)) ggX9_errorsIfMoved_X9_requireCell
set_option maxRecDepth 20000 in
theorem ggX9_errorsIfMoved_X4_errorsWith : GoodIn wsX9_errorsIfMoved wsX4_errorsWith := goodIn_r _ [31, 32, 33, 34, 35, 36, 37, 30, 38, 39, 40, 41, 42, 43, 44, 45, 46, 47, 48, 49, 50, 13, 51, 15, 52, 53, 54, 55, 56, 57, 58, 59, 60, 61, 62, 63, 64, 65, 66, 67, 68, 69, 70, 71, 72, 73, 74, 75, 76, 77, 78, 79, 80, 81, 82, 83, 84, 85, 86, 87, 105, 106, 107, 108, 109, 110, 111, 112, 113, 114, 115, 98, 99, 100, 101, 102, 103, 104, 116, 117, 118] (by decide +kernel) (by decide +kernel)
set_option maxRecDepth 20000 in
theorem gX9_errorsIfMoved_X4_errorsWith : GoodIn wsX9_errorsIfMoved (wsV RX9 248 RX4 yX4_errorsWith wsX4_errorsWith) := goodIn_app (goodIn_of _ (by decide +kernel)) ggX9_errorsIfMoved_X4_errorsWith
theorem dX9_errorsIfMoved_0 : decode cX9_errorsIfMoved 0 = .ok (.aload_n 0, 1) := by decide +kernel
theorem dX9_errorsIfMoved_1 : decode cX9_errorsIfMoved 1 = .ok (.iload_n 1, 1) := by decide +kernel
theorem dX9_errorsIfMoved_2 : decode cX9_errorsIfMoved 2 = .ok (.invokevirtual 120, 3) := by decide +kernel
theorem dX9_errorsIfMoved_5 : decode cX9_errorsIfMoved 5 = .ok (.astore 4, 2) := by decide +kernel
theorem dX9_errorsIfMoved_7 : decode cX9_errorsIfMoved 7 = .ok (.iload_n 2, 1) := by decide +kernel
theorem dX9_errorsIfMoved_8 : decode cX9_errorsIfMoved 8 = .ok (.iload_n 3, 1) := by decide +kernel
theorem dX9_errorsIfMoved_9 : decode cX9_errorsIfMoved 9 = .ok (.invokestatic 100, 3) := by decide +kernel
theorem dX9_errorsIfMoved_12 : decode cX9_errorsIfMoved 12 = .ok (.aload_n 0, 1) := by decide +kernel
theorem dX9_errorsIfMoved_13 : decode cX9_errorsIfMoved 13 = .ok (.getfield 21, 3) := by decide +kernel
theorem dX9_errorsIfMoved_16 : decode cX9_errorsIfMoved 16 = .ok (.aload 4, 2) := by decide +kernel
theorem dX9_errorsIfMoved_18 : decode cX9_errorsIfMoved 18 = .ok (.iload_n 2, 1) := by decide +kernel
theorem dX9_errorsIfMoved_19 : decode cX9_errorsIfMoved 19 = .ok (.iload_n 3, 1) := by decide +kernel
theorem dX9_errorsIfMoved_20 : decode cX9_errorsIfMoved 20 = .ok (.invokevirtual 248, 3) := by decide +kernel
theorem dX9_errorsIfMoved_23 : decode cX9_errorsIfMoved 23 = .ok (.ireturn, 1) := by decide +kernel
set_option maxRecDepth 20000 in
theorem ggX9_canMove_X9_requirePrint : GoodIn wsX9_canMove wsX9_requirePrint := goodIn_ca (goodIn_r _ [6, 7, 8, 1, 9, 10, 11, 12, 13, 14, 15, 16, 68, 69, 70, 71, 72, 73, 74, 75, 76, 77, 78, 79, 80, 81, 82, 83, 84, 85, 86, 87, 88, 89, 90, 91, 92, 93, 94] (by decide +kernel) (by decide +kernel)) (goodIn_sub (fun _ h => List.mem_cons_of_mem _ (List.mem_append_right _ h)) (by decide +kernel))
set_option maxRecDepth 20000 in
theorem gX9_canMove_X9_requirePrint : GoodIn wsX9_canMove (wsV RX9 120 RX9 yX9_requirePrint wsX9_requirePrint) := goodIn_app (goodIn_of _ (by decide +kernel)) ggX9_canMove_X9_requirePrint
set_option maxRecDepth 20000 in
theorem ggX9_canMove_X9_requireCell : GoodIn wsX9_canMove wsX9_requireCell := goodIn_ca (goodIn_r _ [19, 7, 8, 20, 21, 5, 22, 23, 24, 25] (by decide +kernel) (by decide +kernel)) (goodIn_sub (fun _ h => List.mem_cons_of_mem _ (List.mem_append_right _ h)) (by decide +kernel))
set_option maxRecDepth 20000 in
theorem gX9_canMove_X9_requireCell : GoodIn wsX9_canMove (va_wsS RX9 100 yX9_requireCell wsX9_requireCell) := goodIn_app (goodIn_of _ (by decide +kernel)) ggX9_canMove_X9_requireCell
set_option maxRecDepth 20000 in
theorem ggX9_canMove_X0_objectionToMove : GoodIn wsX9_canMove wsX0_objectionToMove := goodIn_r _ [29, 30, 31, 32, 33, 34, 35, 36, 37, 38, 39, 40, 41, 42, 43, 44, 45, 46, 47, 48, 49, 50, 51, 52, 53, 54, 55, 12, 56, 57, 16, 58, 59, 60, 61, 62, 63, 64, 65, 14, 15, 66, 67, 95, 96, 97, 85, 86, 87, 88, 89, 90, 91, 92, 93, 94, 78, 79, 80, 81, 82, 83, 84] (by decide +kernel) (by decide +kernel)
set_option maxRecDepth 20000 in
theorem gX9_canMove_X0_objectionToMove : GoodIn wsX9_canMove (wsV RX9 133 RX0 yX0_objectionToMove wsX0_objectionToMove) := goodIn_app (goodIn_of _ (by decide +kernel)) ggX9_canMove_X0_objectionToMove
theorem dX9_canMove_0 : decode cX9_canMove 0 = .ok (.aload_n 0, 1) := by decide +kernel
theorem dX9_canMove_1 : decode cX9_canMove 1 = .ok (.iload_n 1, 1) := by decide +kernel
theorem dX9_canMove_2 : decode cX9_canMove 2 = .ok (.invokevirtual 120, 3) := by decide +kernel
theorem dX9_canMove_5 : decode cX9_canMove 5 = .ok (.astore 4, 2) := by decide +kernel
theorem dX9_canMove_7 : decode cX9_canMove 7 = .ok (.iload_n 2, 1) := by decide +kernel
theorem dX9_canMove_8 : decode cX9_canMove 8 = .ok (.iload_n 3, 1) := by decide +kernel
theorem dX9_canMove_9 : decode cX9_canMove 9 = .ok (.invokestatic 100, 3) := by decide +kernel
theorem dX9_canMove_12 : decode cX9_canMove 12 = .ok (.aload_n 0, 1) := by decide +kernel
theorem dX9_canMove_13 : decode cX9_canMove 13 = .ok (.getfield 12, 3) := by decide +kernel
theorem dX9_canMove_16 : decode cX9_canMove 16 = .ok (.aload 4, 2) := by decide +kernel
theorem dX9_canMove_18 : decode cX9_canMove 18 = .ok (.iload_n 2, 1) := by decide +kernel
theorem dX9_canMove_19 : decode cX9_canMove 19 = .ok (.iload_n 3, 1) := by decide +kernel
theorem dX9_canMove_20 : decode cX9_canMove 20 = .ok (.invokevirtual 133, 3) := by decide +kernel
theorem dX9_canMove_23 : decode cX9_canMove 23 = .ok (.ifnonnull 7, 3) := by decide +kernel
theorem dX9_canMove_26 : decode cX9_canMove 26 = .ok (.iconst 1, 1) := by decide +kernel
theorem dX9_canMove_27 : decode cX9_canMove 27 = .ok (.goto 4, 3) := by decide +kernel
theorem dX9_canMove_30 : decode cX9_canMove 30 = .ok (.iconst 0, 1) := by decide +kernel
theorem dX9_canMove_31 : decode cX9_canMove 31 = .ok (.ireturn, 1) := by decide +kernel
set_option maxRecDepth 20000 in
theorem ggX9_suggestCell_X9_requirePrint : GoodIn wsX9_suggestCell wsX9_requirePrint := goodIn_ca (goodIn_r _ [6, 7, 8, 9, 10, 11, 12, 13, 14, 15, 16, 17, 120, 121, 122, 123, 124, 125, 126, 127, 128, 129, 130, 131, 132, 133, 134, 135, 136, 137, 138, 139, 140, 141, 142, 143, 144, 145, 146] (by decide +kernel) (by decide +kernel)) (goodIn_sub (fun _ h => List.mem_cons_of_mem _ (List.mem_append_right _ h)) (by decide +kernel))
set_option maxRecDepth 20000 in
theorem gX9_suggestCell_X9_requirePrint : GoodIn wsX9_suggestCell (wsV RX9 120 RX9 yX9_requirePrint wsX9_requirePrint) := goodIn_app (goodIn_of _ (by decide +kernel)) ggX9_suggestCell_X9_requirePrint
set_option maxRecDepth 20000 in
theorem ggX9_suggestCell_X4_bestCellFor : GoodIn wsX9_suggestCell wsX4_bestCellFor := goodIn_r _ [22, 23, 24, 25, 26, 27, 28, 29, 21, 30, 31, 32, 33, 34, 35, 36, 37, 38, 39, 40, 41, 13, 42, 15, 43, 44, 45, 46, 47, 48, 49, 50, 51, 52, 53, 54, 55, 56, 57, 58, 59, 60, 61, 62, 63, 64, 65, 66, 67, 68, 69, 70, 71, 72, 73, 74, 75, 76, 77, 78, 79, 5, 80, 81, 82, 83, 84, 85, 86, 87, 88, 89, 90, 91, 92, 93, 94, 95, 96, 97, 98, 99, 100, 101, 102, 103, 104, 105, 17, 106, 107, 108, 109, 110, 111, 112, 113, 16, 114, 115, 116, 117, 118, 119, 137, 138, 139, 140, 141, 142, 143, 144, 145, 146, 147, 130, 131, 132, 133, 134, 135, 136, 148, 149, 150, 151, 152, 153] (by decide +kernel) (by decide +kernel)
set_option maxRecDepth 20000 in
theorem gX9_suggestCell_X4_bestCellFor : GoodIn wsX9_suggestCell (wsV RX9 251 RX4 yX4_bestCellFor wsX4_bestCellFor) := goodIn_app (goodIn_of _ (by decide +kernel)) ggX9_suggestCell_X4_bestCellFor
theorem dX9_suggestCell_0 : decode cX9_suggestCell 0 = .ok (.aload_n 0, 1) := by decide +kernel
theorem dX9_suggestCell_1 : decode cX9_suggestCell 1 = .ok (.getfield 21, 3) := by decide +kernel
theorem dX9_suggestCell_4 : decode cX9_suggestCell 4 = .ok (.aload_n 0, 1) := by decide +kernel
theorem dX9_suggestCell_5 : decode cX9_suggestCell 5 = .ok (.iload_n 1, 1) := by decide +kernel
theorem dX9_suggestCell_6 : decode cX9_suggestCell 6 = .ok (.invokevirtual 120, 3) := by decide +kernel
theorem dX9_suggestCell_9 : decode cX9_suggestCell 9 = .ok (.invokevirtual 251, 3) := by decide +kernel
theorem dX9_suggestCell_12 : decode cX9_suggestCell 12 = .ok (.ireturn, 1) := by decide +kernel
set_option maxRecDepth 20000 in
theorem ggX9_trackByErrors_X4_countAheadOf : GoodIn wsX9_trackByErrors wsX4_countAheadOf := goodIn_r _ [12, 13, 14, 15, 16, 17, 18, 19, 11, 20, 21, 22, 23, 24, 25, 26, 27, 28, 29, 30, 31, 32, 33, 34, 35, 36, 37, 38, 39, 40, 41, 42, 43, 44, 45, 46, 47, 48, 49, 50, 51, 52, 53, 54, 55, 56, 57, 58, 59, 60, 61, 62, 63, 64, 65, 66, 67, 68, 69, 70, 71, 72, 73, 74, 75, 76, 77, 78, 79, 80, 81, 99, 100, 101, 102, 92, 93, 94, 95, 96, 97, 98, 103, 104, 105, 106, 107, 108, 109, 110, 111, 112] (by decide +kernel) (by decide +kernel)
set_option maxRecDepth 20000 in
theorem gX9_trackByErrors_X4_countAheadOf : GoodIn wsX9_trackByErrors (wsV RX9 262 RX4 yX4_countAheadOf wsX4_countAheadOf) := goodIn_app (goodIn_of _ (by decide +kernel)) ggX9_trackByErrors_X4_countAheadOf
theorem dX9_trackByErrors_0 : decode cX9_trackByErrors 0 = .ok (.aload_n 0, 1) := by decide +kernel
theorem dX9_trackByErrors_1 : decode cX9_trackByErrors 1 = .ok (.getfield 12, 3) := by decide +kernel
theorem dX9_trackByErrors_4 : decode cX9_trackByErrors 4 = .ok (.getfield 255, 3) := by decide +kernel
theorem dX9_trackByErrors_7 : decode cX9_trackByErrors 7 = .ok (.astore_n 2, 1) := by decide +kernel
theorem dX9_trackByErrors_8 : decode cX9_trackByErrors 8 = .ok (.aload_n 2, 1) := by decide +kernel
theorem dX9_trackByErrors_9 : decode cX9_trackByErrors 9 = .ok (.arraylength, 1) := by decide +kernel
theorem dX9_trackByErrors_10 : decode cX9_trackByErrors 10 = .ok (.istore_n 3, 1) := by decide +kernel
theorem dX9_trackByErrors_11 : decode cX9_trackByErrors 11 = .ok (.iconst 0, 1) := by decide +kernel
theorem dX9_trackByErrors_12 : decode cX9_trackByErrors 12 = .ok (.istore 4, 2) := by decide +kernel
theorem dX9_trackByErrors_14 : decode cX9_trackByErrors 14 = .ok (.iload 4, 2) := by decide +kernel
theorem dX9_trackByErrors_16 : decode cX9_trackByErrors 16 = .ok (.iload_n 3, 1) := by decide +kernel
theorem dX9_trackByErrors_17 : decode cX9_trackByErrors 17 = .ok (.if_icmp .ge 42, 3) := by decide +kernel
theorem dX9_trackByErrors_20 : decode cX9_trackByErrors 20 = .ok (.aload_n 2, 1) := by decide +kernel
theorem dX9_trackByErrors_21 : decode cX9_trackByErrors 21 = .ok (.iload 4, 2) := by decide +kernel
theorem dX9_trackByErrors_23 : decode cX9_trackByErrors 23 = .ok (.aaload, 1) := by decide +kernel
theorem dX9_trackByErrors_24 : decode cX9_trackByErrors 24 = .ok (.astore 5, 2) := by decide +kernel
theorem dX9_trackByErrors_26 : decode cX9_trackByErrors 26 = .ok (.aload 5, 2) := by decide +kernel
theorem dX9_trackByErrors_28 : decode cX9_trackByErrors 28 = .ok (.getfield 259, 3) := by decide +kernel
theorem dX9_trackByErrors_31 : decode cX9_trackByErrors 31 = .ok (.ifCond .eq 22, 3) := by decide +kernel
theorem dX9_trackByErrors_34 : decode cX9_trackByErrors 34 = .ok (.aload_n 0, 1) := by decide +kernel
theorem dX9_trackByErrors_35 : decode cX9_trackByErrors 35 = .ok (.getfield 21, 3) := by decide +kernel
theorem dX9_trackByErrors_38 : decode cX9_trackByErrors 38 = .ok (.aload 5, 2) := by decide +kernel
theorem dX9_trackByErrors_40 : decode cX9_trackByErrors 40 = .ok (.invokevirtual 262, 3) := by decide +kernel
theorem dX9_trackByErrors_43 : decode cX9_trackByErrors 43 = .ok (.iload_n 1, 1) := by decide +kernel
theorem dX9_trackByErrors_44 : decode cX9_trackByErrors 44 = .ok (.if_icmp .ne 9, 3) := by decide +kernel
theorem dX9_trackByErrors_47 : decode cX9_trackByErrors 47 = .ok (.aload 5, 2) := by decide +kernel
theorem dX9_trackByErrors_49 : decode cX9_trackByErrors 49 = .ok (.getfield 236, 3) := by decide +kernel
theorem dX9_trackByErrors_52 : decode cX9_trackByErrors 52 = .ok (.ireturn, 1) := by decide +kernel
theorem dX9_trackByErrors_53 : decode cX9_trackByErrors 53 = .ok (.iinc 4 1, 3) := by decide +kernel
theorem dX9_trackByErrors_56 : decode cX9_trackByErrors 56 = .ok (.goto (-42), 3) := by decide +kernel
theorem dX9_trackByErrors_59 : decode cX9_trackByErrors 59 = .ok (.new 265, 3) := by decide +kernel
theorem dX9_trackByErrors_62 : decode cX9_trackByErrors 62 = .ok (.dup, 1) := by decide +kernel
theorem dX9_trackByErrors_63 : decode cX9_trackByErrors 63 = .ok (.ldc_w 267, 3) := by decide +kernel
theorem dX9_trackByErrors_66 : decode cX9_trackByErrors 66 = .ok (.invokespecial 269, 3) := by decide +kernel
theorem dX9_trackByErrors_69 : decode cX9_trackByErrors 69 = .ok (.athrow, 1) := by decide +kernel
set_option maxRecDepth 20000 in
theorem ggX9_printByDoubts_X0_countAheadOf : GoodIn wsX9_printByDoubts wsX0_countAheadOf := goodIn_r _ [11, 12, 13, 14, 15, 16, 27, 28, 29, 30, 31, 32, 33, 34, 35, 36, 37, 38, 39, 40, 41, 42, 43] (by decide +kernel) (by decide +kernel)
set_option maxRecDepth 20000 in
theorem gX9_printByDoubts_X0_countAheadOf : GoodIn wsX9_printByDoubts (wsV RX9 275 RX0 yX0_countAheadOf wsX0_countAheadOf) := goodIn_app (goodIn_of _ (by decide +kernel)) ggX9_printByDoubts_X0_countAheadOf
theorem dX9_printByDoubts_0 : decode cX9_printByDoubts 0 = .ok (.aload_n 0, 1) := by decide +kernel
theorem dX9_printByDoubts_1 : decode cX9_printByDoubts 1 = .ok (.getfield 12, 3) := by decide +kernel
theorem dX9_printByDoubts_4 : decode cX9_printByDoubts 4 = .ok (.getfield 270, 3) := by decide +kernel
theorem dX9_printByDoubts_7 : decode cX9_printByDoubts 7 = .ok (.astore_n 2, 1) := by decide +kernel
theorem dX9_printByDoubts_8 : decode cX9_printByDoubts 8 = .ok (.aload_n 2, 1) := by decide +kernel
theorem dX9_printByDoubts_9 : decode cX9_printByDoubts 9 = .ok (.arraylength, 1) := by decide +kernel
theorem dX9_printByDoubts_10 : decode cX9_printByDoubts 10 = .ok (.istore_n 3, 1) := by decide +kernel
theorem dX9_printByDoubts_11 : decode cX9_printByDoubts 11 = .ok (.iconst 0, 1) := by decide +kernel
theorem dX9_printByDoubts_12 : decode cX9_printByDoubts 12 = .ok (.istore 4, 2) := by decide +kernel
theorem dX9_printByDoubts_14 : decode cX9_printByDoubts 14 = .ok (.iload 4, 2) := by decide +kernel
theorem dX9_printByDoubts_16 : decode cX9_printByDoubts 16 = .ok (.iload_n 3, 1) := by decide +kernel
theorem dX9_printByDoubts_17 : decode cX9_printByDoubts 17 = .ok (.if_icmp .ge 42, 3) := by decide +kernel
theorem dX9_printByDoubts_20 : decode cX9_printByDoubts 20 = .ok (.aload_n 2, 1) := by decide +kernel
theorem dX9_printByDoubts_21 : decode cX9_printByDoubts 21 = .ok (.iload 4, 2) := by decide +kernel
theorem dX9_printByDoubts_23 : decode cX9_printByDoubts 23 = .ok (.aaload, 1) := by decide +kernel
theorem dX9_printByDoubts_24 : decode cX9_printByDoubts 24 = .ok (.astore 5, 2) := by decide +kernel
theorem dX9_printByDoubts_26 : decode cX9_printByDoubts 26 = .ok (.aload 5, 2) := by decide +kernel
theorem dX9_printByDoubts_28 : decode cX9_printByDoubts 28 = .ok (.getfield 274, 3) := by decide +kernel
theorem dX9_printByDoubts_31 : decode cX9_printByDoubts 31 = .ok (.ifCond .eq 22, 3) := by decide +kernel
theorem dX9_printByDoubts_34 : decode cX9_printByDoubts 34 = .ok (.aload_n 0, 1) := by decide +kernel
theorem dX9_printByDoubts_35 : decode cX9_printByDoubts 35 = .ok (.getfield 12, 3) := by decide +kernel
theorem dX9_printByDoubts_38 : decode cX9_printByDoubts 38 = .ok (.aload 5, 2) := by decide +kernel
theorem dX9_printByDoubts_40 : decode cX9_printByDoubts 40 = .ok (.invokevirtual 275, 3) := by decide +kernel
theorem dX9_printByDoubts_43 : decode cX9_printByDoubts 43 = .ok (.iload_n 1, 1) := by decide +kernel
theorem dX9_printByDoubts_44 : decode cX9_printByDoubts 44 = .ok (.if_icmp .ne 9, 3) := by decide +kernel
theorem dX9_printByDoubts_47 : decode cX9_printByDoubts 47 = .ok (.aload 5, 2) := by decide +kernel
theorem dX9_printByDoubts_49 : decode cX9_printByDoubts 49 = .ok (.getfield 198, 3) := by decide +kernel
theorem dX9_printByDoubts_52 : decode cX9_printByDoubts 52 = .ok (.ireturn, 1) := by decide +kernel
theorem dX9_printByDoubts_53 : decode cX9_printByDoubts 53 = .ok (.iinc 4 1, 3) := by decide +kernel
theorem dX9_printByDoubts_56 : decode cX9_printByDoubts 56 = .ok (.goto (-42), 3) := by decide +kernel
theorem dX9_printByDoubts_59 : decode cX9_printByDoubts 59 = .ok (.new 265, 3) := by decide +kernel
theorem dX9_printByDoubts_62 : decode cX9_printByDoubts 62 = .ok (.dup, 1) := by decide +kernel
theorem dX9_printByDoubts_63 : decode cX9_printByDoubts 63 = .ok (.ldc_w 267, 3) := by decide +kernel
theorem dX9_printByDoubts_66 : decode cX9_printByDoubts 66 = .ok (.invokespecial 269, 3) := by decide +kernel
theorem dX9_printByDoubts_69 : decode cX9_printByDoubts 69 = .ok (.athrow, 1) := by decide +kernel
set_option maxRecDepth 20000 in
theorem ggX9_printIn_X9_requireCell : GoodIn wsX9_printIn wsX9_requireCell := goodIn_ca (goodIn_r _ [6, 7, 8, 9, 10, 5, 11, 12, 13, 14] (by decide +kernel) (by decide +kernel)) (goodIn_sub (fun _ h => List.mem_cons_of_mem _ (List.mem_append_left _ (List.mem_append_right _ h))) (by decide +kernel))
set_option maxRecDepth 20000 in
theorem gX9_printIn_X9_requireCell : GoodIn wsX9_printIn (va_wsS RX9 100 yX9_requireCell wsX9_requireCell) := goodIn_app (goodIn_of _ (by decide +kernel)) ggX9_printIn_X9_requireCell
set_option maxRecDepth 20000 in
theorem ggX9_printIn_X0_inCell : GoodIn wsX9_printIn wsX0_inCell := goodIn_r _ [19, 20, 21, 22, 23, 49, 50, 51, 52, 53, 54, 55, 39, 40, 41, 42, 43, 44, 45, 46, 47, 48] (by decide +kernel) (by decide +kernel)
set_option maxRecDepth 20000 in
theorem gX9_printIn_X0_inCell : GoodIn wsX9_printIn (wsV RX9 277 RX0 yX0_inCell wsX0_inCell) := goodIn_app (goodIn_of _ (by decide +kernel)) ggX9_printIn_X0_inCell
set_option maxRecDepth 20000 in
theorem ggX9_printIn_X9_requireFound : GoodIn wsX9_printIn wsX9_requireFound := goodIn_ca (goodIn_r _ [26, 27, 28] (by decide +kernel) (by decide +kernel)) (goodIn_sub (fun _ h => List.mem_cons_of_mem _ (List.mem_append_right _ h)) (by decide +kernel))
set_option maxRecDepth 20000 in
theorem gX9_printIn_X9_requireFound : GoodIn wsX9_printIn (va_wsS RX9 195 yX9_requireFound wsX9_requireFound) := goodIn_app (goodIn_of _ (by decide +kernel)) ggX9_printIn_X9_requireFound
theorem dX9_printIn_0 : decode cX9_printIn 0 = .ok (.iload_n 1, 1) := by decide +kernel
theorem dX9_printIn_1 : decode cX9_printIn 1 = .ok (.iload_n 2, 1) := by decide +kernel
theorem dX9_printIn_2 : decode cX9_printIn 2 = .ok (.invokestatic 100, 3) := by decide +kernel
theorem dX9_printIn_5 : decode cX9_printIn 5 = .ok (.aload_n 0, 1) := by decide +kernel
theorem dX9_printIn_6 : decode cX9_printIn 6 = .ok (.getfield 12, 3) := by decide +kernel
theorem dX9_printIn_9 : decode cX9_printIn 9 = .ok (.iload_n 1, 1) := by decide +kernel
theorem dX9_printIn_10 : decode cX9_printIn 10 = .ok (.iload_n 2, 1) := by decide +kernel
theorem dX9_printIn_11 : decode cX9_printIn 11 = .ok (.invokevirtual 277, 3) := by decide +kernel
theorem dX9_printIn_14 : decode cX9_printIn 14 = .ok (.invokestatic 195, 3) := by decide +kernel
theorem dX9_printIn_17 : decode cX9_printIn 17 = .ok (.getfield 198, 3) := by decide +kernel
theorem dX9_printIn_20 : decode cX9_printIn 20 = .ok (.ireturn, 1) := by decide +kernel
set_option maxRecDepth 20000 in
theorem ggX9_printsInRow_X9_requireRow : GoodIn wsX9_printsInRow wsX9_requireRow := goodIn_ca (goodIn_r _ [5, 6, 7, 8, 9, 4, 10] (by decide +kernel) (by decide +kernel)) (goodIn_sub (fun _ h => List.mem_cons_of_mem _ (List.mem_append_right _ h)) (by decide +kernel))
set_option maxRecDepth 20000 in
theorem gX9_printsInRow_X9_requireRow : GoodIn wsX9_printsInRow (va_wsS RX9 281 yX9_requireRow wsX9_requireRow) := goodIn_app (goodIn_of _ (by decide +kernel)) ggX9_printsInRow_X9_requireRow
set_option maxRecDepth 20000 in
theorem ggX9_printsInRow_X0_countPrintsInRows : GoodIn wsX9_printsInRow wsX0_countPrintsInRows := goodIn_r _ [15, 16, 17, 18, 29, 30, 31, 32, 33, 34, 35, 36, 37, 38, 39, 40, 41, 42, 43, 44, 45] (by decide +kernel) (by decide +kernel)
set_option maxRecDepth 20000 in
theorem gX9_printsInRow_X0_countPrintsInRows : GoodIn wsX9_printsInRow (wsV RX9 284 RX0 yX0_countPrintsInRows wsX0_countPrintsInRows) := goodIn_app (goodIn_of _ (by decide +kernel)) ggX9_printsInRow_X0_countPrintsInRows
theorem dX9_printsInRow_0 : decode cX9_printsInRow 0 = .ok (.iload_n 1, 1) := by decide +kernel
theorem dX9_printsInRow_1 : decode cX9_printsInRow 1 = .ok (.invokestatic 281, 3) := by decide +kernel
theorem dX9_printsInRow_4 : decode cX9_printsInRow 4 = .ok (.aload_n 0, 1) := by decide +kernel
theorem dX9_printsInRow_5 : decode cX9_printsInRow 5 = .ok (.getfield 12, 3) := by decide +kernel
theorem dX9_printsInRow_8 : decode cX9_printsInRow 8 = .ok (.iload_n 1, 1) := by decide +kernel
theorem dX9_printsInRow_9 : decode cX9_printsInRow 9 = .ok (.iload_n 1, 1) := by decide +kernel
theorem dX9_printsInRow_10 : decode cX9_printsInRow 10 = .ok (.iconst 1, 1) := by decide +kernel
theorem dX9_printsInRow_11 : decode cX9_printsInRow 11 = .ok (.iadd, 1) := by decide +kernel
theorem dX9_printsInRow_12 : decode cX9_printsInRow 12 = .ok (.invokevirtual 284, 3) := by decide +kernel
theorem dX9_printsInRow_15 : decode cX9_printsInRow 15 = .ok (.ireturn, 1) := by decide +kernel
theorem dX9_tideLevel_0 : decode cX9_tideLevel 0 = .ok (.aload_n 0, 1) := by decide +kernel
theorem dX9_tideLevel_1 : decode cX9_tideLevel 1 = .ok (.getfield 12, 3) := by decide +kernel
theorem dX9_tideLevel_4 : decode cX9_tideLevel 4 = .ok (.getfield 287, 3) := by decide +kernel
theorem dX9_tideLevel_7 : decode cX9_tideLevel 7 = .ok (.ireturn, 1) := by decide +kernel
set_option maxRecDepth 20000 in
theorem ggX9_erasedBy_X9_requireLevel : GoodIn wsX9_erasedBy wsX9_requireLevel := goodIn_ca (goodIn_r _ [5, 6, 7, 8, 9, 4, 10] (by decide +kernel) (by decide +kernel)) (goodIn_sub (fun _ h => List.mem_cons_of_mem _ (List.mem_append_right _ h)) (by decide +kernel))
set_option maxRecDepth 20000 in
theorem gX9_erasedBy_X9_requireLevel : GoodIn wsX9_erasedBy (va_wsS RX9 159 yX9_requireLevel wsX9_requireLevel) := goodIn_app (goodIn_of _ (by decide +kernel)) ggX9_erasedBy_X9_requireLevel
set_option maxRecDepth 20000 in
theorem ggX9_erasedBy_X0_countPrintsInRows : GoodIn wsX9_erasedBy wsX0_countPrintsInRows := goodIn_r _ [15, 16, 17, 18, 29, 30, 31, 32, 33, 34, 35, 36, 37, 38, 39, 40, 41, 42, 43, 44, 45] (by decide +kernel) (by decide +kernel)
set_option maxRecDepth 20000 in
theorem gX9_erasedBy_X0_countPrintsInRows : GoodIn wsX9_erasedBy (wsV RX9 284 RX0 yX0_countPrintsInRows wsX0_countPrintsInRows) := goodIn_app (goodIn_of _ (by decide +kernel)) ggX9_erasedBy_X0_countPrintsInRows
theorem dX9_erasedBy_0 : decode cX9_erasedBy 0 = .ok (.iload_n 1, 1) := by decide +kernel
theorem dX9_erasedBy_1 : decode cX9_erasedBy 1 = .ok (.invokestatic 159, 3) := by decide +kernel
theorem dX9_erasedBy_4 : decode cX9_erasedBy 4 = .ok (.aload_n 0, 1) := by decide +kernel
theorem dX9_erasedBy_5 : decode cX9_erasedBy 5 = .ok (.getfield 12, 3) := by decide +kernel
theorem dX9_erasedBy_8 : decode cX9_erasedBy 8 = .ok (.iconst 0, 1) := by decide +kernel
theorem dX9_erasedBy_9 : decode cX9_erasedBy 9 = .ok (.iload_n 1, 1) := by decide +kernel
theorem dX9_erasedBy_10 : decode cX9_erasedBy 10 = .ok (.invokevirtual 284, 3) := by decide +kernel
theorem dX9_erasedBy_13 : decode cX9_erasedBy 13 = .ok (.ireturn, 1) := by decide +kernel
set_option maxRecDepth 20000 in
theorem ggX9_trackCount_X0_countTracks : GoodIn wsX9_trackCount wsX0_countTracks := goodIn_r _ [6, 7, 8, 19, 20, 21, 22, 23, 24, 25, 26, 27, 28] (by decide +kernel) (by decide +kernel)
set_option maxRecDepth 20000 in
theorem gX9_trackCount_X0_countTracks : GoodIn wsX9_trackCount (wsV RX9 290 RX0 yX0_countTracks wsX0_countTracks) := goodIn_app (goodIn_of _ (by decide +kernel)) ggX9_trackCount_X0_countTracks
theorem dX9_trackCount_0 : decode cX9_trackCount 0 = .ok (.aload_n 0, 1) := by decide +kernel
theorem dX9_trackCount_1 : decode cX9_trackCount 1 = .ok (.getfield 12, 3) := by decide +kernel
theorem dX9_trackCount_4 : decode cX9_trackCount 4 = .ok (.invokevirtual 290, 3) := by decide +kernel
theorem dX9_trackCount_7 : decode cX9_trackCount 7 = .ok (.ireturn, 1) := by decide +kernel
set_option maxRecDepth 20000 in
theorem ggX9_totalPrints_X0_countAllPrints : GoodIn wsX9_totalPrints wsX0_countAllPrints := goodIn_r _ [6, 7, 8, 9, 5, 10, 11, 12, 13, 24, 25, 26, 27, 28, 29, 30, 31, 32, 33, 34, 35, 36, 37, 38, 39, 40] (by decide +kernel) (by decide +kernel)
set_option maxRecDepth 20000 in
theorem gX9_totalPrints_X0_countAllPrints : GoodIn wsX9_totalPrints (wsV RX9 293 RX0 yX0_countAllPrints wsX0_countAllPrints) := goodIn_app (goodIn_of _ (by decide +kernel)) ggX9_totalPrints_X0_countAllPrints
theorem dX9_totalPrints_0 : decode cX9_totalPrints 0 = .ok (.aload_n 0, 1) := by decide +kernel
theorem dX9_totalPrints_1 : decode cX9_totalPrints 1 = .ok (.getfield 12, 3) := by decide +kernel
theorem dX9_totalPrints_4 : decode cX9_totalPrints 4 = .ok (.invokevirtual 293, 3) := by decide +kernel
theorem dX9_totalPrints_7 : decode cX9_totalPrints 7 = .ok (.ireturn, 1) := by decide +kernel
theorem dX9_erasedPrints_0 : decode cX9_erasedPrints 0 = .ok (.aload_n 0, 1) := by decide +kernel
theorem dX9_erasedPrints_1 : decode cX9_erasedPrints 1 = .ok (.getfield 12, 3) := by decide +kernel
theorem dX9_erasedPrints_4 : decode cX9_erasedPrints 4 = .ok (.getfield 296, 3) := by decide +kernel
theorem dX9_erasedPrints_7 : decode cX9_erasedPrints 7 = .ok (.ireturn, 1) := by decide +kernel
theorem dX9_correctedHeels_0 : decode cX9_correctedHeels 0 = .ok (.aload_n 0, 1) := by decide +kernel
theorem dX9_correctedHeels_1 : decode cX9_correctedHeels 1 = .ok (.getfield 12, 3) := by decide +kernel
theorem dX9_correctedHeels_4 : decode cX9_correctedHeels 4 = .ok (.getfield 299, 3) := by decide +kernel
theorem dX9_correctedHeels_7 : decode cX9_correctedHeels 7 = .ok (.ireturn, 1) := by decide +kernel
set_option maxRecDepth 20000 in
theorem ggX9_lateShare_X0_countAllPrints : GoodIn wsX9_lateShare wsX0_countAllPrints := goodIn_r _ [8, 9, 10, 11, 7, 12, 13, 14, 15, 31, 32, 33, 34, 35, 36, 37, 38, 39, 40, 41, 42, 43, 44, 45, 46, 47] (by decide +kernel) (by decide +kernel)
set_option maxRecDepth 20000 in
theorem gX9_lateShare_X0_countAllPrints : GoodIn wsX9_lateShare (wsV RX9 293 RX0 yX0_countAllPrints wsX0_countAllPrints) := goodIn_app (goodIn_of _ (by decide +kernel)) ggX9_lateShare_X0_countAllPrints
set_option maxRecDepth 20000 in
theorem ggX9_lateShare_X0_countLatePrints : GoodIn wsX9_lateShare wsX0_countLatePrints := goodIn_r _ [19, 13, 14, 20, 31, 32, 33, 34, 35, 36, 37, 38, 39, 40, 41, 42, 43, 44, 45, 46, 47] (by decide +kernel) (by decide +kernel)
set_option maxRecDepth 20000 in
theorem gX9_lateShare_X0_countLatePrints : GoodIn wsX9_lateShare (wsV RX9 304 RX0 yX0_countLatePrints wsX0_countLatePrints) := goodIn_app (goodIn_of _ (by decide +kernel)) ggX9_lateShare_X0_countLatePrints
theorem dX9_lateShare_0 : decode cX9_lateShare 0 = .ok (.aload_n 0, 1) := by decide +kernel
theorem dX9_lateShare_1 : decode cX9_lateShare 1 = .ok (.getfield 12, 3) := by decide +kernel
theorem dX9_lateShare_4 : decode cX9_lateShare 4 = .ok (.invokevirtual 293, 3) := by decide +kernel
theorem dX9_lateShare_7 : decode cX9_lateShare 7 = .ok (.istore_n 1, 1) := by decide +kernel
theorem dX9_lateShare_8 : decode cX9_lateShare 8 = .ok (.iload_n 1, 1) := by decide +kernel
theorem dX9_lateShare_9 : decode cX9_lateShare 9 = .ok (.ifCond .ne 14, 3) := by decide +kernel
theorem dX9_lateShare_12 : decode cX9_lateShare 12 = .ok (.new 243, 3) := by decide +kernel
theorem dX9_lateShare_15 : decode cX9_lateShare 15 = .ok (.dup, 1) := by decide +kernel
theorem dX9_lateShare_16 : decode cX9_lateShare 16 = .ok (.ldc_w 302, 3) := by decide +kernel
theorem dX9_lateShare_19 : decode cX9_lateShare 19 = .ok (.invokespecial 247, 3) := by decide +kernel
theorem dX9_lateShare_22 : decode cX9_lateShare 22 = .ok (.athrow, 1) := by decide +kernel
theorem dX9_lateShare_23 : decode cX9_lateShare 23 = .ok (.aload_n 0, 1) := by decide +kernel
theorem dX9_lateShare_24 : decode cX9_lateShare 24 = .ok (.getfield 12, 3) := by decide +kernel
theorem dX9_lateShare_27 : decode cX9_lateShare 27 = .ok (.invokevirtual 304, 3) := by decide +kernel
theorem dX9_lateShare_30 : decode cX9_lateShare 30 = .ok (.i2f, 1) := by decide +kernel
theorem dX9_lateShare_31 : decode cX9_lateShare 31 = .ok (.iload_n 1, 1) := by decide +kernel
theorem dX9_lateShare_32 : decode cX9_lateShare 32 = .ok (.i2f, 1) := by decide +kernel
theorem dX9_lateShare_33 : decode cX9_lateShare 33 = .ok (.fdiv, 1) := by decide +kernel
theorem dX9_lateShare_34 : decode cX9_lateShare 34 = .ok (.freturn, 1) := by decide +kernel
set_option maxRecDepth 20000 in
theorem ggX9_isConsistent_X4_holds : GoodIn wsX9_isConsistent wsX4_holds := goodIn_r _ [6, 7, 8, 9, 10, 11, 12, 13, 14, 15, 16, 5, 17, 18, 19, 20, 21, 22, 23, 24, 25, 26, 27, 28, 29, 30, 31, 32, 33, 34, 35, 36, 37, 38, 39, 40, 41, 42, 43, 44, 45, 46, 47, 48, 49, 50, 51, 52, 53, 54, 55, 56, 57, 58, 59, 60, 61, 62, 63, 64, 65, 66, 67, 68, 69, 70, 71, 72, 73, 74, 75, 76, 77, 78, 79, 80, 81, 82, 83, 84, 85, 86, 87, 88, 89, 90, 91, 92, 93, 94, 95, 96, 97, 98, 99, 100, 101, 102, 103, 104, 105, 106, 107, 108, 109, 110, 111, 112, 113, 124, 125, 126, 127, 128, 129, 130, 131, 132, 133, 134, 135, 136, 137, 138, 139, 140, 141, 142, 143, 144] (by decide +kernel) (by decide +kernel)
set_option maxRecDepth 20000 in
theorem gX9_isConsistent_X4_holds : GoodIn wsX9_isConsistent (wsV RX9 307 RX4 yX4_holds wsX4_holds) := goodIn_app (goodIn_of _ (by decide +kernel)) ggX9_isConsistent_X4_holds
theorem dX9_isConsistent_0 : decode cX9_isConsistent 0 = .ok (.aload_n 0, 1) := by decide +kernel
theorem dX9_isConsistent_1 : decode cX9_isConsistent 1 = .ok (.getfield 21, 3) := by decide +kernel
theorem dX9_isConsistent_4 : decode cX9_isConsistent 4 = .ok (.invokevirtual 307, 3) := by decide +kernel
theorem dX9_isConsistent_7 : decode cX9_isConsistent 7 = .ok (.ireturn, 1) := by decide +kernel
set_option maxRecDepth 20000 in
theorem ggX9_writeTrack_X9_requireTrack : GoodIn wsX9_writeTrack wsX9_requireTrack := goodIn_ca (goodIn_r _ [8, 9, 10, 2, 11, 12, 13, 14, 15, 16, 17, 18, 111, 112, 113, 114, 115, 116, 117, 118, 119, 120, 123, 124, 125, 126, 127, 128, 129, 130, 131, 132] (by decide +kernel) (by decide +kernel)) (goodIn_sub (fun _ h => List.mem_cons_of_mem _ (List.mem_append_left _ (List.mem_append_right _ h))) (by decide +kernel))
set_option maxRecDepth 20000 in
theorem gX9_writeTrack_X9_requireTrack : GoodIn wsX9_writeTrack (wsV RX9 92 RX9 yX9_requireTrack wsX9_requireTrack) := goodIn_app (goodIn_of _ (by decide +kernel)) ggX9_writeTrack_X9_requireTrack
set_option maxRecDepth 20000 in
theorem ggX9_writeTrack_X7_clear : GoodIn wsX9_writeTrack wsX7_clear := goodIn_r _ [23, 24, 121, 122] (by decide +kernel) (by decide +kernel)
set_option maxRecDepth 20000 in
theorem gX9_writeTrack_X7_clear : GoodIn wsX9_writeTrack (wsV RX9 310 RX7 yX7_clear wsX7_clear) := goodIn_app (goodIn_of _ (by decide +kernel)) ggX9_writeTrack_X7_clear
set_option maxRecDepth 20000 in
theorem ggX9_writeTrack_X0_countPrints : GoodIn wsX9_writeTrack wsX0_countPrints := goodIn_r _ [28, 18, 29, 30, 31, 14, 32, 33, 34, 35, 36, 37, 38, 39, 40, 41, 130, 131, 132, 123, 124, 125, 126, 127, 128, 129, 133, 134, 135, 136, 137, 138, 139, 140, 141, 142] (by decide +kernel) (by decide +kernel)
set_option maxRecDepth 20000 in
theorem gX9_writeTrack_X0_countPrints : GoodIn wsX9_writeTrack (wsV RX9 223 RX0 yX0_countPrints wsX0_countPrints) := goodIn_app (goodIn_of _ (by decide +kernel)) ggX9_writeTrack_X0_countPrints
set_option maxRecDepth 20000 in
theorem ggX9_writeTrack_X0_inPlace : GoodIn wsX9_writeTrack wsX0_inPlace := goodIn_r _ [45, 33, 18, 34, 35, 36, 37, 38, 39, 40, 41, 29, 30, 31, 14, 32, 123, 124, 125, 126, 127, 128, 129, 130, 131, 132, 133, 134, 135, 136, 137, 138, 139, 140, 141, 142] (by decide +kernel) (by decide +kernel)
set_option maxRecDepth 20000 in
theorem gX9_writeTrack_X0_inPlace : GoodIn wsX9_writeTrack (wsV RX9 226 RX0 yX0_inPlace wsX0_inPlace) := goodIn_app (goodIn_of _ (by decide +kernel)) ggX9_writeTrack_X0_inPlace
set_option maxRecDepth 20000 in
theorem ggX9_writeTrack_X9_writePrint : GoodIn wsX9_writeTrack wsX9_writePrint := goodIn_ca (goodIn_r _ [49, 1, 50, 51, 52, 53, 54, 55, 22, 56, 24, 57, 58, 59, 60, 61, 62, 63, 64, 65, 66, 67, 68, 69, 70, 14, 71, 33, 72, 34, 35, 36, 37, 38, 39, 40, 41, 73, 74, 75, 76, 77, 78, 79, 80, 81, 12, 13, 15, 16, 17, 18, 82, 83, 84, 85, 86, 87, 88, 89, 90, 91, 92, 93, 94, 95, 96, 97, 98, 99, 100, 101, 102, 103, 104, 105, 106, 107, 108, 109, 110, 111, 112, 113, 114, 115, 116, 117, 118, 119, 120, 133, 134, 135, 136, 137, 138, 139, 140, 141, 142, 121, 122, 143, 123, 124, 125, 126, 127, 128, 129, 130, 131, 132] (by decide +kernel) (by decide +kernel)) (goodIn_sub (fun _ h => List.mem_cons_of_mem _ (List.mem_append_right _ h)) (by decide +kernel))
set_option maxRecDepth 20000 in
theorem gX9_writeTrack_X9_writePrint : GoodIn wsX9_writeTrack (wsV RX9 313 RX9 yX9_writePrint wsX9_writePrint) := goodIn_app (goodIn_of _ (by decide +kernel)) ggX9_writeTrack_X9_writePrint
theorem dX9_writeTrack_0 : decode cX9_writeTrack 0 = .ok (.aload_n 0, 1) := by decide +kernel
theorem dX9_writeTrack_1 : decode cX9_writeTrack 1 = .ok (.iload_n 1, 1) := by decide +kernel
theorem dX9_writeTrack_2 : decode cX9_writeTrack 2 = .ok (.invokevirtual 92, 3) := by decide +kernel
theorem dX9_writeTrack_5 : decode cX9_writeTrack 5 = .ok (.astore_n 2, 1) := by decide +kernel
theorem dX9_writeTrack_6 : decode cX9_writeTrack 6 = .ok (.aload_n 0, 1) := by decide +kernel
theorem dX9_writeTrack_7 : decode cX9_writeTrack 7 = .ok (.getfield 54, 3) := by decide +kernel
theorem dX9_writeTrack_10 : decode cX9_writeTrack 10 = .ok (.invokevirtual 310, 3) := by decide +kernel
theorem dX9_writeTrack_13 : decode cX9_writeTrack 13 = .ok (.aload_n 0, 1) := by decide +kernel
theorem dX9_writeTrack_14 : decode cX9_writeTrack 14 = .ok (.getfield 12, 3) := by decide +kernel
theorem dX9_writeTrack_17 : decode cX9_writeTrack 17 = .ok (.aload_n 2, 1) := by decide +kernel
theorem dX9_writeTrack_18 : decode cX9_writeTrack 18 = .ok (.invokevirtual 223, 3) := by decide +kernel
theorem dX9_writeTrack_21 : decode cX9_writeTrack 21 = .ok (.istore_n 3, 1) := by decide +kernel
theorem dX9_writeTrack_22 : decode cX9_writeTrack 22 = .ok (.iconst 0, 1) := by decide +kernel
theorem dX9_writeTrack_23 : decode cX9_writeTrack 23 = .ok (.istore 4, 2) := by decide +kernel
theorem dX9_writeTrack_25 : decode cX9_writeTrack 25 = .ok (.iload 4, 2) := by decide +kernel
theorem dX9_writeTrack_27 : decode cX9_writeTrack 27 = .ok (.iload_n 3, 1) := by decide +kernel
theorem dX9_writeTrack_28 : decode cX9_writeTrack 28 = .ok (.if_icmp .ge 23, 3) := by decide +kernel
theorem dX9_writeTrack_31 : decode cX9_writeTrack 31 = .ok (.aload_n 0, 1) := by decide +kernel
theorem dX9_writeTrack_32 : decode cX9_writeTrack 32 = .ok (.aload_n 0, 1) := by decide +kernel
theorem dX9_writeTrack_33 : decode cX9_writeTrack 33 = .ok (.getfield 12, 3) := by decide +kernel
theorem dX9_writeTrack_36 : decode cX9_writeTrack 36 = .ok (.aload_n 2, 1) := by decide +kernel
theorem dX9_writeTrack_37 : decode cX9_writeTrack 37 = .ok (.iload 4, 2) := by decide +kernel
theorem dX9_writeTrack_39 : decode cX9_writeTrack 39 = .ok (.invokevirtual 226, 3) := by decide +kernel
theorem dX9_writeTrack_42 : decode cX9_writeTrack 42 = .ok (.invokevirtual 313, 3) := by decide +kernel
theorem dX9_writeTrack_45 : decode cX9_writeTrack 45 = .ok (.iinc 4 1, 3) := by decide +kernel
theorem dX9_writeTrack_48 : decode cX9_writeTrack 48 = .ok (.goto (-23), 3) := by decide +kernel
theorem dX9_writeTrack_51 : decode cX9_writeTrack 51 = .ok (.aload_n 0, 1) := by decide +kernel
theorem dX9_writeTrack_52 : decode cX9_writeTrack 52 = .ok (.getfield 54, 3) := by decide +kernel
theorem dX9_writeTrack_55 : decode cX9_writeTrack 55 = .ok (.getfield 316, 3) := by decide +kernel
theorem dX9_writeTrack_58 : decode cX9_writeTrack 58 = .ok (.ireturn, 1) := by decide +kernel
set_option maxRecDepth 20000 in
theorem ggX9_writePrint_X7_append : GoodIn wsX9_writePrint wsX7_append := goodIn_ca (goodIn_r _ [9, 10, 11, 101, 102] (by decide +kernel) (by decide +kernel)) (goodIn_sub (fun _ h => List.mem_cons_of_mem _ (List.mem_append_right _ h)) (by decide +kernel))
set_option maxRecDepth 20000 in
theorem gX9_writePrint_X7_append : GoodIn wsX9_writePrint (wsV RX9 319 RX7 yX7_append wsX7_append) := goodIn_app (goodIn_of _ (by decide +kernel)) ggX9_writePrint_X7_append
set_option maxRecDepth 20000 in
theorem ggX9_writePrint_X4_hasError : GoodIn wsX9_writePrint wsX4_hasError := goodIn_r _ [16, 17, 18, 19, 15, 20, 21, 22, 23, 24, 25, 26, 27, 28, 29, 30, 31, 32, 33, 34, 35, 36, 37, 38, 39, 40, 41, 42, 43, 44, 45, 46, 47, 48, 49, 50, 51, 52, 53, 54, 55, 56, 57, 58, 59, 60, 61, 62, 63, 64, 65, 66, 67, 68, 69, 70, 71, 72, 73, 74, 75, 76, 77, 78, 79, 80, 103, 104, 105, 106, 107, 108, 109, 110, 91, 92, 93, 94, 95, 96, 97, 98, 99, 100, 111, 112, 113] (by decide +kernel) (by decide +kernel)
set_option maxRecDepth 20000 in
theorem gX9_writePrint_X4_hasError : GoodIn wsX9_writePrint (wsV RX9 323 RX4 yX4_hasError wsX4_hasError) := goodIn_app (goodIn_of _ (by decide +kernel)) ggX9_writePrint_X4_hasError
theorem dX9_writePrint_0 : decode cX9_writePrint 0 = .ok (.aload_n 1, 1) := by decide +kernel
theorem dX9_writePrint_1 : decode cX9_writePrint 1 = .ok (.ifnonnull 4, 3) := by decide +kernel
theorem dX9_writePrint_4 : decode cX9_writePrint 4 = .ok (.return_, 1) := by decide +kernel
theorem dX9_writePrint_5 : decode cX9_writePrint 5 = .ok (.aload_n 0, 1) := by decide +kernel
theorem dX9_writePrint_6 : decode cX9_writePrint 6 = .ok (.getfield 54, 3) := by decide +kernel
theorem dX9_writePrint_9 : decode cX9_writePrint 9 = .ok (.aload_n 1, 1) := by decide +kernel
theorem dX9_writePrint_10 : decode cX9_writePrint 10 = .ok (.getfield 179, 3) := by decide +kernel
theorem dX9_writePrint_13 : decode cX9_writePrint 13 = .ok (.ifCond .eq 8, 3) := by decide +kernel
theorem dX9_writePrint_16 : decode cX9_writePrint 16 = .ok (.bipush 76, 2) := by decide +kernel
theorem dX9_writePrint_18 : decode cX9_writePrint 18 = .ok (.goto 5, 3) := by decide +kernel
theorem dX9_writePrint_21 : decode cX9_writePrint 21 = .ok (.bipush 82, 2) := by decide +kernel
theorem dX9_writePrint_23 : decode cX9_writePrint 23 = .ok (.invokevirtual 319, 3) := by decide +kernel
theorem dX9_writePrint_26 : decode cX9_writePrint 26 = .ok (.aload_n 1, 1) := by decide +kernel
theorem dX9_writePrint_27 : decode cX9_writePrint 27 = .ok (.getfield 185, 3) := by decide +kernel
theorem dX9_writePrint_30 : decode cX9_writePrint 30 = .ok (.ifCond .le 12, 3) := by decide +kernel
theorem dX9_writePrint_33 : decode cX9_writePrint 33 = .ok (.aload_n 0, 1) := by decide +kernel
theorem dX9_writePrint_34 : decode cX9_writePrint 34 = .ok (.getfield 54, 3) := by decide +kernel
theorem dX9_writePrint_37 : decode cX9_writePrint 37 = .ok (.bipush 63, 2) := by decide +kernel
theorem dX9_writePrint_39 : decode cX9_writePrint 39 = .ok (.invokevirtual 319, 3) := by decide +kernel
theorem dX9_writePrint_42 : decode cX9_writePrint 42 = .ok (.aload_n 0, 1) := by decide +kernel
theorem dX9_writePrint_43 : decode cX9_writePrint 43 = .ok (.getfield 21, 3) := by decide +kernel
theorem dX9_writePrint_46 : decode cX9_writePrint 46 = .ok (.aload_n 1, 1) := by decide +kernel
theorem dX9_writePrint_47 : decode cX9_writePrint 47 = .ok (.invokevirtual 323, 3) := by decide +kernel
theorem dX9_writePrint_50 : decode cX9_writePrint 50 = .ok (.ifCond .eq 12, 3) := by decide +kernel
theorem dX9_writePrint_53 : decode cX9_writePrint 53 = .ok (.aload_n 0, 1) := by decide +kernel
theorem dX9_writePrint_54 : decode cX9_writePrint 54 = .ok (.getfield 54, 3) := by decide +kernel
theorem dX9_writePrint_57 : decode cX9_writePrint 57 = .ok (.bipush 33, 2) := by decide +kernel
theorem dX9_writePrint_59 : decode cX9_writePrint 59 = .ok (.invokevirtual 319, 3) := by decide +kernel
theorem dX9_writePrint_62 : decode cX9_writePrint 62 = .ok (.return_, 1) := by decide +kernel
set_option maxRecDepth 20000 in
theorem ggX9_writeRow_X9_requireRow : GoodIn wsX9_writeRow wsX9_requireRow := goodIn_ca (goodIn_r _ [6, 7, 8, 9, 10, 5, 11] (by decide +kernel) (by decide +kernel)) (goodIn_sub (fun _ h => List.mem_cons_of_mem _ (List.mem_append_left _ (List.mem_append_right _ h))) (by decide +kernel))
set_option maxRecDepth 20000 in
theorem gX9_writeRow_X9_requireRow : GoodIn wsX9_writeRow (va_wsS RX9 281 yX9_requireRow wsX9_requireRow) := goodIn_app (goodIn_of _ (by decide +kernel)) ggX9_writeRow_X9_requireRow
set_option maxRecDepth 20000 in
theorem ggX9_writeRow_X7_clear : GoodIn wsX9_writeRow wsX7_clear := goodIn_r _ [16, 17, 53, 54] (by decide +kernel) (by decide +kernel)
set_option maxRecDepth 20000 in
theorem gX9_writeRow_X7_clear : GoodIn wsX9_writeRow (wsV RX9 310 RX7 yX7_clear wsX7_clear) := goodIn_app (goodIn_of _ (by decide +kernel)) ggX9_writeRow_X7_clear
set_option maxRecDepth 20000 in
theorem ggX9_writeRow_X9_signOf : GoodIn wsX9_writeRow wsX9_signOf := goodIn_r _ [21, 22, 23, 24, 25, 26, 27, 28, 29, 30, 31, 32, 33, 34, 35, 36, 37, 43, 44, 45, 46, 47, 48, 49, 50, 51, 52, 55, 56, 57, 58, 59, 60, 61, 62, 63, 64, 65, 66, 67, 68, 69, 70, 71] (by decide +kernel) (by decide +kernel)
set_option maxRecDepth 20000 in
theorem gX9_writeRow_X9_signOf : GoodIn wsX9_writeRow (wsV RX9 326 RX9 yX9_signOf wsX9_signOf) := goodIn_app (goodIn_of _ (by decide +kernel)) ggX9_writeRow_X9_signOf
set_option maxRecDepth 20000 in
theorem ggX9_writeRow_X7_append : GoodIn wsX9_writeRow wsX7_append := goodIn_ca (goodIn_r _ [41, 17, 42, 53, 54] (by decide +kernel) (by decide +kernel)) (goodIn_sub (fun _ h => List.mem_cons_of_mem _ (List.mem_append_right _ h)) (by decide +kernel))
set_option maxRecDepth 20000 in
theorem gX9_writeRow_X7_append : GoodIn wsX9_writeRow (wsV RX9 319 RX7 yX7_append wsX7_append) := goodIn_app (goodIn_of _ (by decide +kernel)) ggX9_writeRow_X7_append
theorem dX9_writeRow_0 : decode cX9_writeRow 0 = .ok (.iload_n 1, 1) := by decide +kernel
theorem dX9_writeRow_1 : decode cX9_writeRow 1 = .ok (.invokestatic 281, 3) := by decide +kernel
theorem dX9_writeRow_4 : decode cX9_writeRow 4 = .ok (.aload_n 0, 1) := by decide +kernel
theorem dX9_writeRow_5 : decode cX9_writeRow 5 = .ok (.getfield 54, 3) := by decide +kernel
theorem dX9_writeRow_8 : decode cX9_writeRow 8 = .ok (.invokevirtual 310, 3) := by decide +kernel
theorem dX9_writeRow_11 : decode cX9_writeRow 11 = .ok (.iconst 0, 1) := by decide +kernel
theorem dX9_writeRow_12 : decode cX9_writeRow 12 = .ok (.istore_n 2, 1) := by decide +kernel
theorem dX9_writeRow_13 : decode cX9_writeRow 13 = .ok (.iload_n 2, 1) := by decide +kernel
theorem dX9_writeRow_14 : decode cX9_writeRow 14 = .ok (.bipush 20, 2) := by decide +kernel
theorem dX9_writeRow_16 : decode cX9_writeRow 16 = .ok (.if_icmp .ge 22, 3) := by decide +kernel
theorem dX9_writeRow_19 : decode cX9_writeRow 19 = .ok (.aload_n 0, 1) := by decide +kernel
theorem dX9_writeRow_20 : decode cX9_writeRow 20 = .ok (.getfield 54, 3) := by decide +kernel
theorem dX9_writeRow_23 : decode cX9_writeRow 23 = .ok (.aload_n 0, 1) := by decide +kernel
theorem dX9_writeRow_24 : decode cX9_writeRow 24 = .ok (.iload_n 1, 1) := by decide +kernel
theorem dX9_writeRow_25 : decode cX9_writeRow 25 = .ok (.iload_n 2, 1) := by decide +kernel
theorem dX9_writeRow_26 : decode cX9_writeRow 26 = .ok (.invokevirtual 326, 3) := by decide +kernel
theorem dX9_writeRow_29 : decode cX9_writeRow 29 = .ok (.invokevirtual 319, 3) := by decide +kernel
theorem dX9_writeRow_32 : decode cX9_writeRow 32 = .ok (.iinc 2 1, 3) := by decide +kernel
theorem dX9_writeRow_35 : decode cX9_writeRow 35 = .ok (.goto (-22), 3) := by decide +kernel
theorem dX9_writeRow_38 : decode cX9_writeRow 38 = .ok (.aload_n 0, 1) := by decide +kernel
theorem dX9_writeRow_39 : decode cX9_writeRow 39 = .ok (.getfield 54, 3) := by decide +kernel
theorem dX9_writeRow_42 : decode cX9_writeRow 42 = .ok (.getfield 316, 3) := by decide +kernel
theorem dX9_writeRow_45 : decode cX9_writeRow 45 = .ok (.ireturn, 1) := by decide +kernel
set_option maxRecDepth 20000 in
theorem ggX9_signOf_X0_isUnderWater : GoodIn wsX9_signOf wsX0_isUnderWater := goodIn_r _ [7, 8, 37, 38, 39, 40, 41, 42, 43] (by decide +kernel) (by decide +kernel)
set_option maxRecDepth 20000 in
theorem gX9_signOf_X0_isUnderWater : GoodIn wsX9_signOf (wsV RX9 330 RX0 yX0_isUnderWater wsX0_isUnderWater) := goodIn_app (goodIn_of _ (by decide +kernel)) ggX9_signOf_X0_isUnderWater
set_option maxRecDepth 20000 in
theorem ggX9_signOf_X0_inCell : GoodIn wsX9_signOf wsX0_inCell := goodIn_r _ [12, 13, 14, 15, 16, 37, 38, 39, 40, 41, 42, 43, 27, 28, 29, 30, 31, 32, 33, 34, 35, 36] (by decide +kernel) (by decide +kernel)
set_option maxRecDepth 20000 in
theorem gX9_signOf_X0_inCell : GoodIn wsX9_signOf (wsV RX9 277 RX0 yX0_inCell wsX0_inCell) := goodIn_app (goodIn_of _ (by decide +kernel)) ggX9_signOf_X0_inCell
theorem dX9_signOf_0 : decode cX9_signOf 0 = .ok (.aload_n 0, 1) := by decide +kernel
theorem dX9_signOf_1 : decode cX9_signOf 1 = .ok (.getfield 12, 3) := by decide +kernel
theorem dX9_signOf_4 : decode cX9_signOf 4 = .ok (.iload_n 1, 1) := by decide +kernel
theorem dX9_signOf_5 : decode cX9_signOf 5 = .ok (.invokevirtual 330, 3) := by decide +kernel
theorem dX9_signOf_8 : decode cX9_signOf 8 = .ok (.ifCond .eq 6, 3) := by decide +kernel
theorem dX9_signOf_11 : decode cX9_signOf 11 = .ok (.bipush 126, 2) := by decide +kernel
theorem dX9_signOf_13 : decode cX9_signOf 13 = .ok (.ireturn, 1) := by decide +kernel
theorem dX9_signOf_14 : decode cX9_signOf 14 = .ok (.aload_n 0, 1) := by decide +kernel
theorem dX9_signOf_15 : decode cX9_signOf 15 = .ok (.getfield 12, 3) := by decide +kernel
theorem dX9_signOf_18 : decode cX9_signOf 18 = .ok (.iload_n 1, 1) := by decide +kernel
theorem dX9_signOf_19 : decode cX9_signOf 19 = .ok (.iload_n 2, 1) := by decide +kernel
theorem dX9_signOf_20 : decode cX9_signOf 20 = .ok (.invokevirtual 277, 3) := by decide +kernel
theorem dX9_signOf_23 : decode cX9_signOf 23 = .ok (.astore_n 3, 1) := by decide +kernel
theorem dX9_signOf_24 : decode cX9_signOf 24 = .ok (.aload_n 3, 1) := by decide +kernel
theorem dX9_signOf_25 : decode cX9_signOf 25 = .ok (.ifnonnull 8, 3) := by decide +kernel
theorem dX9_signOf_28 : decode cX9_signOf 28 = .ok (.bipush 46, 2) := by decide +kernel
theorem dX9_signOf_30 : decode cX9_signOf 30 = .ok (.goto 14, 3) := by decide +kernel
theorem dX9_signOf_33 : decode cX9_signOf 33 = .ok (.bipush 48, 2) := by decide +kernel
theorem dX9_signOf_35 : decode cX9_signOf 35 = .ok (.aload_n 3, 1) := by decide +kernel
theorem dX9_signOf_36 : decode cX9_signOf 36 = .ok (.getfield 198, 3) := by decide +kernel
theorem dX9_signOf_39 : decode cX9_signOf 39 = .ok (.bipush 10, 2) := by decide +kernel
theorem dX9_signOf_41 : decode cX9_signOf 41 = .ok (.irem, 1) := by decide +kernel
theorem dX9_signOf_42 : decode cX9_signOf 42 = .ok (.iadd, 1) := by decide +kernel
theorem dX9_signOf_43 : decode cX9_signOf 43 = .ok (.i2c, 1) := by decide +kernel
theorem dX9_signOf_44 : decode cX9_signOf 44 = .ok (.ireturn, 1) := by decide +kernel
set_option maxRecDepth 20000 in
theorem ggX9_outputAt_X7_reaches : GoodIn wsX9_outputAt wsX7_reaches := goodIn_r _ [8, 9, 10, 26, 27] (by decide +kernel) (by decide +kernel)
set_option maxRecDepth 20000 in
theorem gX9_outputAt_X7_reaches : GoodIn wsX9_outputAt (wsV RX9 333 RX7 yX7_reaches wsX7_reaches) := goodIn_app (goodIn_of _ (by decide +kernel)) ggX9_outputAt_X7_reaches
set_option maxRecDepth 20000 in
theorem ggX9_outputAt_X7_signAt : GoodIn wsX9_outputAt wsX7_signAt := goodIn_ca (goodIn_r _ [14, 10, 15, 5, 6, 7, 8, 9, 26, 27] (by decide +kernel) (by decide +kernel)) (goodIn_sub (fun _ h => List.mem_cons_of_mem _ (List.mem_append_right _ h)) (by decide +kernel))
set_option maxRecDepth 20000 in
theorem gX9_outputAt_X7_signAt : GoodIn wsX9_outputAt (wsV RX9 341 RX7 yX7_signAt wsX7_signAt) := goodIn_app (goodIn_of _ (by decide +kernel)) ggX9_outputAt_X7_signAt
theorem dX9_outputAt_0 : decode cX9_outputAt 0 = .ok (.aload_n 0, 1) := by decide +kernel
theorem dX9_outputAt_1 : decode cX9_outputAt 1 = .ok (.getfield 54, 3) := by decide +kernel
theorem dX9_outputAt_4 : decode cX9_outputAt 4 = .ok (.iload_n 1, 1) := by decide +kernel
theorem dX9_outputAt_5 : decode cX9_outputAt 5 = .ok (.invokevirtual 333, 3) := by decide +kernel
theorem dX9_outputAt_8 : decode cX9_outputAt 8 = .ok (.ifCond .ne 14, 3) := by decide +kernel
theorem dX9_outputAt_11 : decode cX9_outputAt 11 = .ok (.new 336, 3) := by decide +kernel
theorem dX9_outputAt_14 : decode cX9_outputAt 14 = .ok (.dup, 1) := by decide +kernel
theorem dX9_outputAt_15 : decode cX9_outputAt 15 = .ok (.ldc_w 338, 3) := by decide +kernel
theorem dX9_outputAt_18 : decode cX9_outputAt 18 = .ok (.invokespecial 340, 3) := by decide +kernel
theorem dX9_outputAt_21 : decode cX9_outputAt 21 = .ok (.athrow, 1) := by decide +kernel
theorem dX9_outputAt_22 : decode cX9_outputAt 22 = .ok (.aload_n 0, 1) := by decide +kernel
theorem dX9_outputAt_23 : decode cX9_outputAt 23 = .ok (.getfield 54, 3) := by decide +kernel
theorem dX9_outputAt_26 : decode cX9_outputAt 26 = .ok (.iload_n 1, 1) := by decide +kernel
theorem dX9_outputAt_27 : decode cX9_outputAt 27 = .ok (.invokevirtual 341, 3) := by decide +kernel
theorem dX9_outputAt_30 : decode cX9_outputAt 30 = .ok (.ireturn, 1) := by decide +kernel
set_option maxRecDepth 20000 in
theorem ggX9_appendInput_X7_isFull : GoodIn wsX9_appendInput wsX7_isFull := goodIn_r _ [12, 13, 14, 34, 35] (by decide +kernel) (by decide +kernel)
set_option maxRecDepth 20000 in
theorem gX9_appendInput_X7_isFull : GoodIn wsX9_appendInput (wsV RX9 350 RX7 yX7_isFull wsX7_isFull) := goodIn_app (goodIn_of _ (by decide +kernel)) ggX9_appendInput_X7_isFull
set_option maxRecDepth 20000 in
theorem ggX9_appendInput_X7_append : GoodIn wsX9_appendInput wsX7_append := goodIn_ca (goodIn_r _ [18, 13, 14, 34, 35] (by decide +kernel) (by decide +kernel)) (goodIn_sub (fun _ h => List.mem_cons_of_mem _ (List.mem_append_right _ h)) (by decide +kernel))
set_option maxRecDepth 20000 in
theorem gX9_appendInput_X7_append : GoodIn wsX9_appendInput (wsV RX9 319 RX7 yX7_append wsX7_append) := goodIn_app (goodIn_of _ (by decide +kernel)) ggX9_appendInput_X7_append
theorem dX9_appendInput_0 : decode cX9_appendInput 0 = .ok (.iload_n 1, 1) := by decide +kernel
theorem dX9_appendInput_1 : decode cX9_appendInput 1 = .ok (.bipush 32, 2) := by decide +kernel
theorem dX9_appendInput_3 : decode cX9_appendInput 3 = .ok (.if_icmp .lt 9, 3) := by decide +kernel
theorem dX9_appendInput_6 : decode cX9_appendInput 6 = .ok (.iload_n 1, 1) := by decide +kernel
theorem dX9_appendInput_7 : decode cX9_appendInput 7 = .ok (.bipush 126, 2) := by decide +kernel
theorem dX9_appendInput_9 : decode cX9_appendInput 9 = .ok (.if_icmp .le 14, 3) := by decide +kernel
theorem dX9_appendInput_12 : decode cX9_appendInput 12 = .ok (.new 70, 3) := by decide +kernel
theorem dX9_appendInput_15 : decode cX9_appendInput 15 = .ok (.dup, 1) := by decide +kernel
theorem dX9_appendInput_16 : decode cX9_appendInput 16 = .ok (.ldc_w 345, 3) := by decide +kernel
theorem dX9_appendInput_19 : decode cX9_appendInput 19 = .ok (.invokespecial 74, 3) := by decide +kernel
theorem dX9_appendInput_22 : decode cX9_appendInput 22 = .ok (.athrow, 1) := by decide +kernel
theorem dX9_appendInput_23 : decode cX9_appendInput 23 = .ok (.aload_n 0, 1) := by decide +kernel
theorem dX9_appendInput_24 : decode cX9_appendInput 24 = .ok (.getfield 45, 3) := by decide +kernel
theorem dX9_appendInput_27 : decode cX9_appendInput 27 = .ok (.getfield 347, 3) := by decide +kernel
theorem dX9_appendInput_30 : decode cX9_appendInput 30 = .ok (.invokevirtual 350, 3) := by decide +kernel
theorem dX9_appendInput_33 : decode cX9_appendInput 33 = .ok (.ifCond .eq 14, 3) := by decide +kernel
theorem dX9_appendInput_36 : decode cX9_appendInput 36 = .ok (.new 353, 3) := by decide +kernel
theorem dX9_appendInput_39 : decode cX9_appendInput 39 = .ok (.dup, 1) := by decide +kernel
theorem dX9_appendInput_40 : decode cX9_appendInput 40 = .ok (.ldc_w 355, 3) := by decide +kernel
theorem dX9_appendInput_43 : decode cX9_appendInput 43 = .ok (.invokespecial 357, 3) := by decide +kernel
theorem dX9_appendInput_46 : decode cX9_appendInput 46 = .ok (.athrow, 1) := by decide +kernel
theorem dX9_appendInput_47 : decode cX9_appendInput 47 = .ok (.aload_n 0, 1) := by decide +kernel
theorem dX9_appendInput_48 : decode cX9_appendInput 48 = .ok (.getfield 45, 3) := by decide +kernel
theorem dX9_appendInput_51 : decode cX9_appendInput 51 = .ok (.getfield 347, 3) := by decide +kernel
theorem dX9_appendInput_54 : decode cX9_appendInput 54 = .ok (.iload_n 1, 1) := by decide +kernel
theorem dX9_appendInput_55 : decode cX9_appendInput 55 = .ok (.invokevirtual 319, 3) := by decide +kernel
theorem dX9_appendInput_58 : decode cX9_appendInput 58 = .ok (.aload_n 0, 1) := by decide +kernel
theorem dX9_appendInput_59 : decode cX9_appendInput 59 = .ok (.getfield 45, 3) := by decide +kernel
theorem dX9_appendInput_62 : decode cX9_appendInput 62 = .ok (.getfield 347, 3) := by decide +kernel
theorem dX9_appendInput_65 : decode cX9_appendInput 65 = .ok (.getfield 316, 3) := by decide +kernel
theorem dX9_appendInput_68 : decode cX9_appendInput 68 = .ok (.ireturn, 1) := by decide +kernel
set_option maxRecDepth 20000 in
theorem ggX9_execute_X6_parse : GoodIn wsX9_execute wsX6_parse := goodIn_ca (goodIn_r _ [15, 16, 17, 18, 19, 20, 21, 22, 23, 24, 14, 25, 26, 27, 28, 29, 30, 31, 32, 33, 34, 35, 36, 37, 38, 39, 40, 41, 42, 43, 44, 45, 46, 47, 48, 49, 50, 51, 52, 53, 54, 55, 56, 57, 58, 59, 60, 61, 62, 63, 64, 65, 66, 67, 68, 69, 70, 71, 72, 73, 74, 75, 76, 77, 78, 79, 80, 81, 82, 83, 84, 85, 86, 87, 88, 89, 90, 91, 92, 93, 94, 95, 96, 97, 98, 99, 100, 101, 102, 103, 104, 105, 106, 107, 108, 109, 110, 111, 358, 359, 360, 361, 362, 363, 364, 365, 366, 367, 368, 369, 370, 371, 372, 373] (by decide +kernel) (by decide +kernel)) (goodIn_sub (fun _ h => List.mem_cons_of_mem _ (List.mem_append_left _ (List.mem_append_left _ (List.mem_append_right _ h)))) (by decide +kernel))
set_option maxRecDepth 20000 in
theorem gX9_execute_X6_parse : GoodIn wsX9_execute (wsV RX9 358 RX6 yX6_parse wsX6_parse) := goodIn_app (goodIn_of _ (by decide +kernel)) ggX9_execute_X6_parse
set_option maxRecDepth 20000 in
theorem ggX9_execute_X7_clear : GoodIn wsX9_execute wsX7_clear := goodIn_r _ [115, 37, 363, 364] (by decide +kernel) (by decide +kernel)
set_option maxRecDepth 20000 in
theorem gX9_execute_X7_clear : GoodIn wsX9_execute (wsV RX9 310 RX7 yX7_clear wsX7_clear) := goodIn_app (goodIn_of _ (by decide +kernel)) ggX9_execute_X7_clear
set_option maxRecDepth 20000 in
theorem ggX9_execute_X0_copyFrom : GoodIn wsX9_execute wsX0_copyFrom := goodIn_r _ [120, 121, 122, 123, 124, 125, 126, 127, 128, 129, 130, 131, 132, 133, 134, 135, 136, 137, 138, 139, 140, 141, 142, 143, 144, 145, 146, 147, 148, 149, 150, 374, 375, 376, 377, 378, 379, 380, 381, 382, 383, 384, 385, 386, 387, 388, 389, 390, 391, 392, 393] (by decide +kernel) (by decide +kernel)
set_option maxRecDepth 20000 in
theorem gX9_execute_X0_copyFrom : GoodIn wsX9_execute (wsV RX9 363 RX0 yX0_copyFrom wsX0_copyFrom) := goodIn_app (goodIn_of _ (by decide +kernel)) ggX9_execute_X0_copyFrom
set_option maxRecDepth 20000 in
theorem ggX9_execute_X9_runCommand : GoodIn wsX9_execute wsX9_runCommand := goodIn_ca (goodIn_ca (goodIn_r _ [155, 156, 157, 7, 6, 158, 159, 160, 161, 162, 163, 164, 165, 166, 167, 168, 169, 170, 171, 172, 154, 173, 174, 175, 176, 119, 177, 121, 178, 179, 180, 181, 182, 183, 184, 185, 186, 187, 188, 189, 190, 191, 192, 122, 193, 194, 195, 196, 116, 117, 118, 120, 123, 124, 125, 126, 127, 128, 129, 130, 131, 132, 133, 134, 135, 136, 137, 138, 139, 140, 141, 142, 143, 144, 145, 146, 147, 148, 149, 150, 197, 198, 199, 200, 201, 202, 203, 204, 205, 206, 207, 208, 209, 210, 211, 212, 213, 214, 215, 216, 217, 218, 219, 220, 221, 222, 223, 224, 225, 226, 227, 228, 229, 230, 231, 232, 233, 234, 235, 236, 237, 238, 239, 240, 241, 242, 243, 244, 245, 246, 247, 248, 249, 250, 251, 252, 253, 254, 255, 256, 257, 258, 259, 260, 261, 262, 263, 264, 265, 266, 267, 268, 269, 270, 271, 272, 273, 274, 275, 276, 277, 278, 279, 280, 281, 282, 283, 284, 285, 286, 287, 288, 289, 290, 291, 292, 293, 294, 295, 296, 297, 298, 299, 300, 301, 302, 303, 304, 305, 306, 307, 308, 309, 310, 311, 312, 313, 314, 315, 316, 317, 318, 319, 320, 321, 322, 323, 324, 325, 326, 327, 328, 329, 330, 331, 332, 333, 334, 335, 336, 348, 349, 350, 351, 352, 353, 354, 355, 356, 357, 394, 395, 396, 365, 366, 367, 368, 369, 370, 371, 374, 375, 376, 377, 378, 379, 380, 381, 382, 383, 384, 385, 386, 387, 388, 389, 390, 391, 392, 393] (by decide +kernel) (by decide +kernel)) (goodIn_sub (fun _ h => List.mem_cons_of_mem _ (List.mem_append_left _ (List.mem_append_right _ h))) (by decide +kernel))) (goodIn_sub (fun _ h => List.mem_cons_of_mem _ (List.mem_append_right _ h)) (by decide +kernel))
set_option maxRecDepth 20000 in
theorem gX9_execute_X9_runCommand : GoodIn wsX9_execute (wsV RX9 373 RX9 yX9_runCommand wsX9_runCommand) := goodIn_app (goodIn_of _ (by decide +kernel)) ggX9_execute_X9_runCommand
set_option maxRecDepth 20000 in
theorem ggX9_execute_X2_push : GoodIn wsX9_execute wsX2_push := goodIn_r _ [341, 342, 343, 344, 345, 264, 346, 347, 117, 118, 119, 120, 121, 122, 123, 124, 125, 126, 127, 128, 129, 130, 131, 132, 133, 134, 135, 136, 137, 138, 139, 140, 141, 142, 143, 144, 145, 146, 147, 148, 149, 150, 397, 398, 374, 375, 376, 377, 378, 379, 380, 381, 382, 383, 384, 385, 386, 387, 388, 389, 390, 391, 392, 393] (by decide +kernel) (by decide +kernel)
set_option maxRecDepth 20000 in
theorem gX9_execute_X2_push : GoodIn wsX9_execute (wsV RX9 85 RX2 yX2_push wsX2_push) := goodIn_app (goodIn_of _ (by decide +kernel)) ggX9_execute_X2_push
theorem dX9_execute_0 : decode cX9_execute 0 = .ok (.aload_n 0, 1) := by decide +kernel
theorem dX9_execute_1 : decode cX9_execute 1 = .ok (.getfield 45, 3) := by decide +kernel
theorem dX9_execute_4 : decode cX9_execute 4 = .ok (.invokevirtual 358, 3) := by decide +kernel
theorem dX9_execute_7 : decode cX9_execute 7 = .ok (.istore_n 1, 1) := by decide +kernel
theorem dX9_execute_8 : decode cX9_execute 8 = .ok (.aload_n 0, 1) := by decide +kernel
theorem dX9_execute_9 : decode cX9_execute 9 = .ok (.getfield 45, 3) := by decide +kernel
theorem dX9_execute_12 : decode cX9_execute 12 = .ok (.getfield 347, 3) := by decide +kernel
theorem dX9_execute_15 : decode cX9_execute 15 = .ok (.invokevirtual 310, 3) := by decide +kernel
theorem dX9_execute_18 : decode cX9_execute 18 = .ok (.iload_n 1, 1) := by decide +kernel
theorem dX9_execute_19 : decode cX9_execute 19 = .ok (.iconst (-1), 1) := by decide +kernel
theorem dX9_execute_20 : decode cX9_execute 20 = .ok (.if_icmp .eq 19, 3) := by decide +kernel
theorem dX9_execute_23 : decode cX9_execute 23 = .ok (.aload_n 0, 1) := by decide +kernel
theorem dX9_execute_24 : decode cX9_execute 24 = .ok (.iload_n 1, 1) := by decide +kernel
theorem dX9_execute_25 : decode cX9_execute 25 = .ok (.putfield 62, 3) := by decide +kernel
theorem dX9_execute_28 : decode cX9_execute 28 = .ok (.new 70, 3) := by decide +kernel
theorem dX9_execute_31 : decode cX9_execute 31 = .ok (.dup, 1) := by decide +kernel
theorem dX9_execute_32 : decode cX9_execute 32 = .ok (.ldc_w 361, 3) := by decide +kernel
theorem dX9_execute_35 : decode cX9_execute 35 = .ok (.invokespecial 74, 3) := by decide +kernel
theorem dX9_execute_38 : decode cX9_execute 38 = .ok (.athrow, 1) := by decide +kernel
theorem dX9_execute_39 : decode cX9_execute 39 = .ok (.aload_n 0, 1) := by decide +kernel
theorem dX9_execute_40 : decode cX9_execute 40 = .ok (.getfield 32, 3) := by decide +kernel
theorem dX9_execute_43 : decode cX9_execute 43 = .ok (.aload_n 0, 1) := by decide +kernel
theorem dX9_execute_44 : decode cX9_execute 44 = .ok (.getfield 12, 3) := by decide +kernel
theorem dX9_execute_47 : decode cX9_execute 47 = .ok (.invokevirtual 363, 3) := by decide +kernel
theorem dX9_execute_50 : decode cX9_execute 50 = .ok (.iconst 0, 1) := by decide +kernel
theorem dX9_execute_51 : decode cX9_execute 51 = .ok (.istore_n 2, 1) := by decide +kernel
theorem dX9_execute_52 : decode cX9_execute 52 = .ok (.iload_n 2, 1) := by decide +kernel
theorem dX9_execute_53 : decode cX9_execute 53 = .ok (.aload_n 0, 1) := by decide +kernel
theorem dX9_execute_54 : decode cX9_execute 54 = .ok (.getfield 45, 3) := by decide +kernel
theorem dX9_execute_57 : decode cX9_execute 57 = .ok (.getfield 366, 3) := by decide +kernel
theorem dX9_execute_60 : decode cX9_execute 60 = .ok (.if_icmp .ge 35, 3) := by decide +kernel
theorem dX9_execute_63 : decode cX9_execute 63 = .ok (.iload_n 2, 1) := by decide +kernel
theorem dX9_execute_64 : decode cX9_execute 64 = .ok (.aload_n 0, 1) := by decide +kernel
theorem dX9_execute_65 : decode cX9_execute 65 = .ok (.getfield 45, 3) := by decide +kernel
theorem dX9_execute_68 : decode cX9_execute 68 = .ok (.getfield 369, 3) := by decide +kernel
theorem dX9_execute_71 : decode cX9_execute 71 = .ok (.arraylength, 1) := by decide +kernel
theorem dX9_execute_72 : decode cX9_execute 72 = .ok (.if_icmp .ge 23, 3) := by decide +kernel
theorem dX9_execute_75 : decode cX9_execute 75 = .ok (.aload_n 0, 1) := by decide +kernel
theorem dX9_execute_76 : decode cX9_execute 76 = .ok (.aload_n 0, 1) := by decide +kernel
theorem dX9_execute_77 : decode cX9_execute 77 = .ok (.getfield 45, 3) := by decide +kernel
theorem dX9_execute_80 : decode cX9_execute 80 = .ok (.getfield 369, 3) := by decide +kernel
theorem dX9_execute_83 : decode cX9_execute 83 = .ok (.iload_n 2, 1) := by decide +kernel
theorem dX9_execute_84 : decode cX9_execute 84 = .ok (.aaload, 1) := by decide +kernel
theorem dX9_execute_85 : decode cX9_execute 85 = .ok (.iload_n 2, 1) := by decide +kernel
theorem dX9_execute_86 : decode cX9_execute 86 = .ok (.invokevirtual 373, 3) := by decide +kernel
theorem dX9_execute_89 : decode cX9_execute 89 = .ok (.iinc 2 1, 3) := by decide +kernel
theorem dX9_execute_92 : decode cX9_execute 92 = .ok (.goto (-40), 3) := by decide +kernel
theorem dX9_execute_95 : decode cX9_execute 95 = .ok (.aload_n 0, 1) := by decide +kernel
theorem dX9_execute_96 : decode cX9_execute 96 = .ok (.getfield 28, 3) := by decide +kernel
theorem dX9_execute_99 : decode cX9_execute 99 = .ok (.aload_n 0, 1) := by decide +kernel
theorem dX9_execute_100 : decode cX9_execute 100 = .ok (.getfield 32, 3) := by decide +kernel
theorem dX9_execute_103 : decode cX9_execute 103 = .ok (.invokevirtual 85, 3) := by decide +kernel
theorem dX9_execute_106 : decode cX9_execute 106 = .ok (.aload_n 0, 1) := by decide +kernel
theorem dX9_execute_107 : decode cX9_execute 107 = .ok (.getfield 45, 3) := by decide +kernel
theorem dX9_execute_110 : decode cX9_execute 110 = .ok (.getfield 366, 3) := by decide +kernel
theorem dX9_execute_113 : decode cX9_execute 113 = .ok (.ireturn, 1) := by decide +kernel
set_option maxRecDepth 20000 in
theorem ggX9_runCommand_X1_isAccepted : GoodIn wsX9_runCommand wsX1_isAccepted := goodIn_r _ [12, 13, 14, 15, 16, 17, 18, 19, 20, 21, 22, 23, 24, 25, 26, 27, 28, 29, 30, 31, 32, 33, 34, 35, 36, 37, 38, 39, 40, 41, 42, 43, 44, 45, 46, 47, 233, 234, 235, 236, 237, 238, 239, 240, 241, 242, 243, 244, 245, 246, 247, 248, 249, 250, 251, 252, 253, 254, 255, 256, 257, 258, 259] (by decide +kernel) (by decide +kernel)
set_option maxRecDepth 20000 in
theorem gX9_runCommand_X1_isAccepted : GoodIn wsX9_runCommand (wsV RX9 377 RX1 yX1_isAccepted wsX1_isAccepted) := goodIn_app (goodIn_of _ (by decide +kernel)) ggX9_runCommand_X1_isAccepted
set_option maxRecDepth 20000 in
theorem ggX9_runCommand_X0_copyFrom : GoodIn wsX9_runCommand wsX0_copyFrom := goodIn_r _ [51, 27, 43, 52, 53, 54, 55, 56, 57, 58, 59, 60, 61, 62, 63, 64, 65, 66, 67, 68, 69, 70, 71, 72, 73, 74, 75, 76, 77, 78, 79, 240, 241, 242, 243, 244, 245, 246, 247, 248, 249, 250, 251, 252, 253, 254, 255, 256, 257, 258, 259] (by decide +kernel) (by decide +kernel)
set_option maxRecDepth 20000 in
theorem gX9_runCommand_X0_copyFrom : GoodIn wsX9_runCommand (wsV RX9 363 RX0 yX0_copyFrom wsX0_copyFrom) := goodIn_app (goodIn_of _ (by decide +kernel)) ggX9_runCommand_X0_copyFrom
set_option maxRecDepth 20000 in
theorem ggX9_runCommand_X1_objection : GoodIn wsX9_runCommand wsX1_objection := goodIn_r _ [83, 15, 13, 18, 16, 17, 14, 39, 40, 41, 25, 42, 43, 44, 45, 84, 85, 86, 87, 88, 6, 7, 89, 90, 91, 92, 27, 28, 93, 94, 95, 96, 97, 98, 99, 100, 101, 102, 103, 104, 105, 106, 107, 108, 109, 110, 111, 112, 113, 114, 115, 116, 117, 118, 119, 120, 121, 122, 68, 123, 70, 72, 124, 125, 126, 127, 52, 128, 129, 130, 131, 132, 133, 134, 135, 136, 137, 138, 139, 140, 141, 142, 143, 144, 74, 145, 146, 147, 148, 75, 149, 150, 151, 152, 153, 154, 155, 156, 157, 158, 159, 160, 161, 233, 234, 235, 236, 237, 238, 239, 240, 241, 242, 243, 244, 245, 246, 250, 251, 252, 253, 254, 255, 256, 257, 258, 259, 230, 231, 232, 247, 248, 249] (by decide +kernel) (by decide +kernel)
set_option maxRecDepth 20000 in
theorem gX9_runCommand_X1_objection : GoodIn wsX9_runCommand (wsV RX9 385 RX1 yX1_objection wsX1_objection) := goodIn_app (goodIn_of _ (by decide +kernel)) ggX9_runCommand_X1_objection
set_option maxRecDepth 20000 in
theorem ggX9_runCommand_X5_init : GoodIn wsX9_runCommand wsX5_init := goodIn_r _ [95, 96, 97, 98, 99, 100, 101, 230, 231, 232] (by decide +kernel) (by decide +kernel)
set_option maxRecDepth 20000 in
theorem gX9_runCommand_X5_init : GoodIn wsX9_runCommand (wsX5_init) := ggX9_runCommand_X5_init
set_option maxRecDepth 20000 in
theorem ggX9_runCommand_X9_rejectFor : GoodIn wsX9_runCommand wsX9_rejectFor := goodIn_ca (goodIn_r _ [166, 167, 168, 169, 220, 221, 222, 223, 224, 225, 226, 227, 228, 229] (by decide +kernel) (by decide +kernel)) (goodIn_sub (fun _ h => List.mem_cons_of_mem _ (List.mem_append_right _ h)) (by decide +kernel))
set_option maxRecDepth 20000 in
theorem gX9_runCommand_X9_rejectFor : GoodIn wsX9_runCommand (wsV RX9 81 RX9 yX9_rejectFor wsX9_rejectFor) := goodIn_app (goodIn_of _ (by decide +kernel)) ggX9_runCommand_X9_rejectFor
set_option maxRecDepth 20000 in
theorem ggX9_runCommand_X1_runOn : GoodIn wsX9_runCommand wsX1_runOn := goodIn_r _ [173, 15, 13, 14, 18, 16, 17, 174, 39, 40, 41, 25, 42, 43, 44, 45, 175, 176, 177, 178, 27, 28, 53, 29, 179, 180, 181, 182, 183, 54, 184, 119, 114, 136, 185, 186, 153, 187, 188, 189, 190, 191, 120, 121, 122, 68, 123, 70, 72, 192, 193, 194, 195, 52, 55, 128, 129, 130, 131, 196, 197, 198, 11, 199, 200, 201, 202, 203, 56, 141, 142, 143, 144, 74, 145, 146, 147, 148, 75, 204, 205, 206, 207, 76, 208, 209, 210, 211, 78, 212, 213, 214, 215, 216, 217, 218, 219, 233, 234, 235, 236, 237, 238, 239, 240, 241, 242, 243, 244, 245, 246, 250, 251, 252, 253, 254, 255, 256, 257, 258, 259, 247, 248, 249] (by decide +kernel) (by decide +kernel)
set_option maxRecDepth 20000 in
theorem gX9_runCommand_X1_runOn : GoodIn wsX9_runCommand (wsV RX9 394 RX1 yX1_runOn wsX1_runOn) := goodIn_app (goodIn_of _ (by decide +kernel)) ggX9_runCommand_X1_runOn
theorem dX9_runCommand_0 : decode cX9_runCommand 0 = .ok (.aload_n 1, 1) := by decide +kernel
theorem dX9_runCommand_1 : decode cX9_runCommand 1 = .ok (.aload_n 0, 1) := by decide +kernel
theorem dX9_runCommand_2 : decode cX9_runCommand 2 = .ok (.getfield 12, 3) := by decide +kernel
theorem dX9_runCommand_5 : decode cX9_runCommand 5 = .ok (.invokevirtual 377, 3) := by decide +kernel
theorem dX9_runCommand_8 : decode cX9_runCommand 8 = .ok (.ifCond .ne 25, 3) := by decide +kernel
theorem dX9_runCommand_11 : decode cX9_runCommand 11 = .ok (.aload_n 0, 1) := by decide +kernel
theorem dX9_runCommand_12 : decode cX9_runCommand 12 = .ok (.getfield 12, 3) := by decide +kernel
theorem dX9_runCommand_15 : decode cX9_runCommand 15 = .ok (.aload_n 0, 1) := by decide +kernel
theorem dX9_runCommand_16 : decode cX9_runCommand 16 = .ok (.getfield 32, 3) := by decide +kernel
theorem dX9_runCommand_19 : decode cX9_runCommand 19 = .ok (.invokevirtual 363, 3) := by decide +kernel
theorem dX9_runCommand_22 : decode cX9_runCommand 22 = .ok (.new 353, 3) := by decide +kernel
theorem dX9_runCommand_25 : decode cX9_runCommand 25 = .ok (.dup, 1) := by decide +kernel
theorem dX9_runCommand_26 : decode cX9_runCommand 26 = .ok (.ldc_w 383, 3) := by decide +kernel
theorem dX9_runCommand_29 : decode cX9_runCommand 29 = .ok (.invokespecial 357, 3) := by decide +kernel
theorem dX9_runCommand_32 : decode cX9_runCommand 32 = .ok (.athrow, 1) := by decide +kernel
theorem dX9_runCommand_33 : decode cX9_runCommand 33 = .ok (.aload_n 1, 1) := by decide +kernel
theorem dX9_runCommand_34 : decode cX9_runCommand 34 = .ok (.aload_n 0, 1) := by decide +kernel
theorem dX9_runCommand_35 : decode cX9_runCommand 35 = .ok (.getfield 12, 3) := by decide +kernel
theorem dX9_runCommand_38 : decode cX9_runCommand 38 = .ok (.invokevirtual 385, 3) := by decide +kernel
theorem dX9_runCommand_41 : decode cX9_runCommand 41 = .ok (.astore_n 3, 1) := by decide +kernel
theorem dX9_runCommand_42 : decode cX9_runCommand 42 = .ok (.aload_n 3, 1) := by decide +kernel
theorem dX9_runCommand_43 : decode cX9_runCommand 43 = .ok (.ifnull 29, 3) := by decide +kernel
theorem dX9_runCommand_46 : decode cX9_runCommand 46 = .ok (.aload_n 0, 1) := by decide +kernel
theorem dX9_runCommand_47 : decode cX9_runCommand 47 = .ok (.getfield 12, 3) := by decide +kernel
theorem dX9_runCommand_50 : decode cX9_runCommand 50 = .ok (.aload_n 0, 1) := by decide +kernel
theorem dX9_runCommand_51 : decode cX9_runCommand 51 = .ok (.getfield 32, 3) := by decide +kernel
theorem dX9_runCommand_54 : decode cX9_runCommand 54 = .ok (.invokevirtual 363, 3) := by decide +kernel
theorem dX9_runCommand_57 : decode cX9_runCommand 57 = .ok (.aload_n 0, 1) := by decide +kernel
theorem dX9_runCommand_58 : decode cX9_runCommand 58 = .ok (.new 389, 3) := by decide +kernel
theorem dX9_runCommand_61 : decode cX9_runCommand 61 = .ok (.dup, 1) := by decide +kernel
theorem dX9_runCommand_62 : decode cX9_runCommand 62 = .ok (.bipush 10, 2) := by decide +kernel
theorem dX9_runCommand_64 : decode cX9_runCommand 64 = .ok (.iload_n 2, 1) := by decide +kernel
theorem dX9_runCommand_65 : decode cX9_runCommand 65 = .ok (.aload_n 3, 1) := by decide +kernel
theorem dX9_runCommand_66 : decode cX9_runCommand 66 = .ok (.invokespecial 391, 3) := by decide +kernel
theorem dX9_runCommand_69 : decode cX9_runCommand 69 = .ok (.invokevirtual 81, 3) := by decide +kernel
theorem dX9_runCommand_72 : decode cX9_runCommand 72 = .ok (.aload_n 1, 1) := by decide +kernel
theorem dX9_runCommand_73 : decode cX9_runCommand 73 = .ok (.aload_n 0, 1) := by decide +kernel
theorem dX9_runCommand_74 : decode cX9_runCommand 74 = .ok (.getfield 12, 3) := by decide +kernel
theorem dX9_runCommand_77 : decode cX9_runCommand 77 = .ok (.invokevirtual 394, 3) := by decide +kernel
theorem dX9_runCommand_80 : decode cX9_runCommand 80 = .ok (.return_, 1) := by decide +kernel
theorem dX9_syntaxErrorOffset_0 : decode cX9_syntaxErrorOffset 0 = .ok (.aload_n 0, 1) := by decide +kernel
theorem dX9_syntaxErrorOffset_1 : decode cX9_syntaxErrorOffset 1 = .ok (.getfield 62, 3) := by decide +kernel
theorem dX9_syntaxErrorOffset_4 : decode cX9_syntaxErrorOffset 4 = .ok (.iconst (-1), 1) := by decide +kernel
theorem dX9_syntaxErrorOffset_5 : decode cX9_syntaxErrorOffset 5 = .ok (.if_icmp .ne 14, 3) := by decide +kernel
theorem dX9_syntaxErrorOffset_8 : decode cX9_syntaxErrorOffset 8 = .ok (.new 265, 3) := by decide +kernel
theorem dX9_syntaxErrorOffset_11 : decode cX9_syntaxErrorOffset 11 = .ok (.dup, 1) := by decide +kernel
theorem dX9_syntaxErrorOffset_12 : decode cX9_syntaxErrorOffset 12 = .ok (.ldc_w 397, 3) := by decide +kernel
theorem dX9_syntaxErrorOffset_15 : decode cX9_syntaxErrorOffset 15 = .ok (.invokespecial 269, 3) := by decide +kernel
theorem dX9_syntaxErrorOffset_18 : decode cX9_syntaxErrorOffset 18 = .ok (.athrow, 1) := by decide +kernel
theorem dX9_syntaxErrorOffset_19 : decode cX9_syntaxErrorOffset 19 = .ok (.aload_n 0, 1) := by decide +kernel
theorem dX9_syntaxErrorOffset_20 : decode cX9_syntaxErrorOffset 20 = .ok (.getfield 62, 3) := by decide +kernel
theorem dX9_syntaxErrorOffset_23 : decode cX9_syntaxErrorOffset 23 = .ok (.ireturn, 1) := by decide +kernel
set_option maxRecDepth 20000 in
theorem ggX9_rejectionReason_X9_requireRejection : GoodIn wsX9_rejectionReason wsX9_requireRejection := goodIn_ca (goodIn_r _ [6, 7, 8] (by decide +kernel) (by decide +kernel)) (goodIn_sub (fun _ h => List.mem_cons_of_mem _ (List.mem_append_right _ h)) (by decide +kernel))
set_option maxRecDepth 20000 in
theorem gX9_rejectionReason_X9_requireRejection : GoodIn wsX9_rejectionReason (va_wsS RX9 399 yX9_requireRejection wsX9_requireRejection) := goodIn_app (goodIn_of _ (by decide +kernel)) ggX9_rejectionReason_X9_requireRejection
theorem dX9_rejectionReason_0 : decode cX9_rejectionReason 0 = .ok (.aload_n 0, 1) := by decide +kernel
theorem dX9_rejectionReason_1 : decode cX9_rejectionReason 1 = .ok (.getfield 58, 3) := by decide +kernel
theorem dX9_rejectionReason_4 : decode cX9_rejectionReason 4 = .ok (.invokestatic 399, 3) := by decide +kernel
theorem dX9_rejectionReason_7 : decode cX9_rejectionReason 7 = .ok (.getfield 403, 3) := by decide +kernel
theorem dX9_rejectionReason_10 : decode cX9_rejectionReason 10 = .ok (.ireturn, 1) := by decide +kernel
set_option maxRecDepth 20000 in
theorem ggX9_rejectionDetail_X9_requireRejection : GoodIn wsX9_rejectionDetail wsX9_requireRejection := goodIn_ca (goodIn_r _ [6, 7, 8] (by decide +kernel) (by decide +kernel)) (goodIn_sub (fun _ h => List.mem_cons_of_mem _ (List.mem_append_right _ h)) (by decide +kernel))
set_option maxRecDepth 20000 in
theorem gX9_rejectionDetail_X9_requireRejection : GoodIn wsX9_rejectionDetail (va_wsS RX9 399 yX9_requireRejection wsX9_requireRejection) := goodIn_app (goodIn_of _ (by decide +kernel)) ggX9_rejectionDetail_X9_requireRejection
theorem dX9_rejectionDetail_0 : decode cX9_rejectionDetail 0 = .ok (.aload_n 0, 1) := by decide +kernel
theorem dX9_rejectionDetail_1 : decode cX9_rejectionDetail 1 = .ok (.getfield 58, 3) := by decide +kernel
theorem dX9_rejectionDetail_4 : decode cX9_rejectionDetail 4 = .ok (.invokestatic 399, 3) := by decide +kernel
theorem dX9_rejectionDetail_7 : decode cX9_rejectionDetail 7 = .ok (.getfield 406, 3) := by decide +kernel
theorem dX9_rejectionDetail_10 : decode cX9_rejectionDetail 10 = .ok (.ireturn, 1) := by decide +kernel
set_option maxRecDepth 20000 in
theorem ggX9_causeReason_X9_requireRejection : GoodIn wsX9_causeReason wsX9_requireRejection := goodIn_ca (goodIn_r _ [7, 8, 9] (by decide +kernel) (by decide +kernel)) (goodIn_sub (fun _ h => List.mem_cons_of_mem _ (List.mem_append_right _ h)) (by decide +kernel))
set_option maxRecDepth 20000 in
theorem gX9_causeReason_X9_requireRejection : GoodIn wsX9_causeReason (va_wsS RX9 399 yX9_requireRejection wsX9_requireRejection) := goodIn_app (goodIn_of _ (by decide +kernel)) ggX9_causeReason_X9_requireRejection
theorem dX9_causeReason_0 : decode cX9_causeReason 0 = .ok (.aload_n 0, 1) := by decide +kernel
theorem dX9_causeReason_1 : decode cX9_causeReason 1 = .ok (.getfield 58, 3) := by decide +kernel
theorem dX9_causeReason_4 : decode cX9_causeReason 4 = .ok (.invokestatic 399, 3) := by decide +kernel
theorem dX9_causeReason_7 : decode cX9_causeReason 7 = .ok (.getfield 409, 3) := by decide +kernel
theorem dX9_causeReason_10 : decode cX9_causeReason 10 = .ok (.invokestatic 399, 3) := by decide +kernel
theorem dX9_causeReason_13 : decode cX9_causeReason 13 = .ok (.getfield 403, 3) := by decide +kernel
theorem dX9_causeReason_16 : decode cX9_causeReason 16 = .ok (.ireturn, 1) := by decide +kernel
set_option maxRecDepth 20000 in
theorem ggX9_causeDetail_X9_requireRejection : GoodIn wsX9_causeDetail wsX9_requireRejection := goodIn_ca (goodIn_r _ [7, 8, 9] (by decide +kernel) (by decide +kernel)) (goodIn_sub (fun _ h => List.mem_cons_of_mem _ (List.mem_append_right _ h)) (by decide +kernel))
set_option maxRecDepth 20000 in
theorem gX9_causeDetail_X9_requireRejection : GoodIn wsX9_causeDetail (va_wsS RX9 399 yX9_requireRejection wsX9_requireRejection) := goodIn_app (goodIn_of _ (by decide +kernel)) ggX9_causeDetail_X9_requireRejection
theorem dX9_causeDetail_0 : decode cX9_causeDetail 0 = .ok (.aload_n 0, 1) := by decide +kernel
theorem dX9_causeDetail_1 : decode cX9_causeDetail 1 = .ok (.getfield 58, 3) := by decide +kernel
theorem dX9_causeDetail_4 : decode cX9_causeDetail 4 = .ok (.invokestatic 399, 3) := by decide +kernel
theorem dX9_causeDetail_7 : decode cX9_causeDetail 7 = .ok (.getfield 409, 3) := by decide +kernel
theorem dX9_causeDetail_10 : decode cX9_causeDetail 10 = .ok (.invokestatic 399, 3) := by decide +kernel
theorem dX9_causeDetail_13 : decode cX9_causeDetail 13 = .ok (.getfield 406, 3) := by decide +kernel
theorem dX9_causeDetail_16 : decode cX9_causeDetail 16 = .ok (.ireturn, 1) := by decide +kernel
set_option maxRecDepth 20000 in
theorem ggX9_undo_X2_popInto : GoodIn wsX9_undo wsX2_popInto := goodIn_r _ [10, 11, 12, 13, 14, 15, 16, 17, 18, 19, 20, 21, 22, 23, 24, 25, 26, 27, 28, 29, 30, 31, 32, 33, 34, 35, 36, 37, 38, 39, 40, 41, 42, 43, 44, 45, 46, 47, 48, 49, 50, 51, 62, 63, 64, 65, 66, 67, 68, 69, 70, 71, 72, 73, 74, 75, 76, 77, 78, 79, 80, 81, 82, 83] (by decide +kernel) (by decide +kernel)
set_option maxRecDepth 20000 in
theorem gX9_undo_X2_popInto : GoodIn wsX9_undo (wsV RX9 415 RX2 yX2_popInto wsX2_popInto) := goodIn_app (goodIn_of _ (by decide +kernel)) ggX9_undo_X2_popInto
theorem dX9_undo_0 : decode cX9_undo 0 = .ok (.aload_n 0, 1) := by decide +kernel
theorem dX9_undo_1 : decode cX9_undo 1 = .ok (.getfield 28, 3) := by decide +kernel
theorem dX9_undo_4 : decode cX9_undo 4 = .ok (.getfield 412, 3) := by decide +kernel
theorem dX9_undo_7 : decode cX9_undo 7 = .ok (.ifCond .ne 14, 3) := by decide +kernel
theorem dX9_undo_10 : decode cX9_undo 10 = .ok (.new 353, 3) := by decide +kernel
theorem dX9_undo_13 : decode cX9_undo 13 = .ok (.dup, 1) := by decide +kernel
theorem dX9_undo_14 : decode cX9_undo 14 = .ok (.ldc_w 413, 3) := by decide +kernel
theorem dX9_undo_17 : decode cX9_undo 17 = .ok (.invokespecial 357, 3) := by decide +kernel
theorem dX9_undo_20 : decode cX9_undo 20 = .ok (.athrow, 1) := by decide +kernel
theorem dX9_undo_21 : decode cX9_undo 21 = .ok (.aload_n 0, 1) := by decide +kernel
theorem dX9_undo_22 : decode cX9_undo 22 = .ok (.getfield 28, 3) := by decide +kernel
theorem dX9_undo_25 : decode cX9_undo 25 = .ok (.aload_n 0, 1) := by decide +kernel
theorem dX9_undo_26 : decode cX9_undo 26 = .ok (.getfield 12, 3) := by decide +kernel
theorem dX9_undo_29 : decode cX9_undo 29 = .ok (.invokevirtual 415, 3) := by decide +kernel
theorem dX9_undo_32 : decode cX9_undo 32 = .ok (.aload_n 0, 1) := by decide +kernel
theorem dX9_undo_33 : decode cX9_undo 33 = .ok (.getfield 28, 3) := by decide +kernel
theorem dX9_undo_36 : decode cX9_undo 36 = .ok (.getfield 412, 3) := by decide +kernel
theorem dX9_undo_39 : decode cX9_undo 39 = .ok (.ireturn, 1) := by decide +kernel
theorem dX9_undoCount_0 : decode cX9_undoCount 0 = .ok (.aload_n 0, 1) := by decide +kernel
theorem dX9_undoCount_1 : decode cX9_undoCount 1 = .ok (.getfield 28, 3) := by decide +kernel
theorem dX9_undoCount_4 : decode cX9_undoCount 4 = .ok (.getfield 412, 3) := by decide +kernel
theorem dX9_undoCount_7 : decode cX9_undoCount 7 = .ok (.ireturn, 1) := by decide +kernel
set_option maxRecDepth 20000 in
theorem ggX9_saveSnapshot_X0_copyFrom : GoodIn wsX9_saveSnapshot wsX0_copyFrom := goodIn_r _ [8, 9, 10, 11, 12, 13, 14, 15, 16, 17, 18, 19, 20, 21, 22, 23, 24, 25, 26, 27, 28, 29, 30, 31, 32, 33, 34, 35, 36, 37, 38, 59, 60, 61, 62, 63, 64, 65, 66, 67, 68, 69, 70, 71, 72, 73, 74, 75, 76, 77, 78] (by decide +kernel) (by decide +kernel)
set_option maxRecDepth 20000 in
theorem gX9_saveSnapshot_X0_copyFrom : GoodIn wsX9_saveSnapshot (wsV RX9 363 RX0 yX0_copyFrom wsX0_copyFrom) := goodIn_app (goodIn_of _ (by decide +kernel)) ggX9_saveSnapshot_X0_copyFrom
set_option maxRecDepth 20000 in
theorem ggX9_saveSnapshot_X0_countAllPrints : GoodIn wsX9_saveSnapshot wsX0_countAllPrints := goodIn_r _ [42, 43, 44, 45, 7, 46, 10, 47, 48, 59, 60, 61, 62, 63, 64, 65, 69, 70, 71, 72, 73, 74, 75, 76, 77, 78] (by decide +kernel) (by decide +kernel)
set_option maxRecDepth 20000 in
theorem gX9_saveSnapshot_X0_countAllPrints : GoodIn wsX9_saveSnapshot (wsV RX9 293 RX0 yX0_countAllPrints wsX0_countAllPrints) := goodIn_app (goodIn_of _ (by decide +kernel)) ggX9_saveSnapshot_X0_countAllPrints
theorem dX9_saveSnapshot_0 : decode cX9_saveSnapshot 0 = .ok (.aload_n 0, 1) := by decide +kernel
theorem dX9_saveSnapshot_1 : decode cX9_saveSnapshot 1 = .ok (.getfield 35, 3) := by decide +kernel
theorem dX9_saveSnapshot_4 : decode cX9_saveSnapshot 4 = .ok (.aload_n 0, 1) := by decide +kernel
theorem dX9_saveSnapshot_5 : decode cX9_saveSnapshot 5 = .ok (.getfield 12, 3) := by decide +kernel
theorem dX9_saveSnapshot_8 : decode cX9_saveSnapshot 8 = .ok (.invokevirtual 363, 3) := by decide +kernel
theorem dX9_saveSnapshot_11 : decode cX9_saveSnapshot 11 = .ok (.aload_n 0, 1) := by decide +kernel
theorem dX9_saveSnapshot_12 : decode cX9_saveSnapshot 12 = .ok (.iconst 1, 1) := by decide +kernel
theorem dX9_saveSnapshot_13 : decode cX9_saveSnapshot 13 = .ok (.putfield 38, 3) := by decide +kernel
theorem dX9_saveSnapshot_16 : decode cX9_saveSnapshot 16 = .ok (.aload_n 0, 1) := by decide +kernel
theorem dX9_saveSnapshot_17 : decode cX9_saveSnapshot 17 = .ok (.getfield 12, 3) := by decide +kernel
theorem dX9_saveSnapshot_20 : decode cX9_saveSnapshot 20 = .ok (.invokevirtual 293, 3) := by decide +kernel
theorem dX9_saveSnapshot_23 : decode cX9_saveSnapshot 23 = .ok (.ireturn, 1) := by decide +kernel
set_option maxRecDepth 20000 in
theorem ggX9_restoreSnapshot_X0_copyFrom : GoodIn wsX9_restoreSnapshot wsX0_copyFrom := goodIn_r _ [11, 12, 13, 14, 15, 16, 17, 18, 19, 20, 21, 22, 23, 24, 25, 26, 27, 28, 29, 30, 31, 32, 33, 34, 35, 36, 37, 38, 39, 40, 41, 68, 69, 70, 71, 72, 73, 74, 75, 76, 77, 78, 79, 80, 81, 82, 83, 84, 85, 86, 87] (by decide +kernel) (by decide +kernel)
set_option maxRecDepth 20000 in
theorem gX9_restoreSnapshot_X0_copyFrom : GoodIn wsX9_restoreSnapshot (wsV RX9 363 RX0 yX0_copyFrom wsX0_copyFrom) := goodIn_app (goodIn_of _ (by decide +kernel)) ggX9_restoreSnapshot_X0_copyFrom
set_option maxRecDepth 20000 in
theorem ggX9_restoreSnapshot_X2_clear : GoodIn wsX9_restoreSnapshot wsX2_clear := goodIn_r _ [46, 47, 88, 89] (by decide +kernel) (by decide +kernel)
set_option maxRecDepth 20000 in
theorem gX9_restoreSnapshot_X2_clear : GoodIn wsX9_restoreSnapshot (wsV RX9 420 RX2 yX2_clear wsX2_clear) := goodIn_app (goodIn_of _ (by decide +kernel)) ggX9_restoreSnapshot_X2_clear
set_option maxRecDepth 20000 in
theorem ggX9_restoreSnapshot_X0_countAllPrints : GoodIn wsX9_restoreSnapshot wsX0_countAllPrints := goodIn_r _ [51, 52, 53, 54, 10, 55, 13, 56, 57, 68, 69, 70, 71, 72, 73, 74, 78, 79, 80, 81, 82, 83, 84, 85, 86, 87] (by decide +kernel) (by decide +kernel)
set_option maxRecDepth 20000 in
theorem gX9_restoreSnapshot_X0_countAllPrints : GoodIn wsX9_restoreSnapshot (wsV RX9 293 RX0 yX0_countAllPrints wsX0_countAllPrints) := goodIn_app (goodIn_of _ (by decide +kernel)) ggX9_restoreSnapshot_X0_countAllPrints
theorem dX9_restoreSnapshot_0 : decode cX9_restoreSnapshot 0 = .ok (.aload_n 0, 1) := by decide +kernel
theorem dX9_restoreSnapshot_1 : decode cX9_restoreSnapshot 1 = .ok (.getfield 38, 3) := by decide +kernel
theorem dX9_restoreSnapshot_4 : decode cX9_restoreSnapshot 4 = .ok (.ifCond .ne 14, 3) := by decide +kernel
theorem dX9_restoreSnapshot_7 : decode cX9_restoreSnapshot 7 = .ok (.new 353, 3) := by decide +kernel
theorem dX9_restoreSnapshot_10 : decode cX9_restoreSnapshot 10 = .ok (.dup, 1) := by decide +kernel
theorem dX9_restoreSnapshot_11 : decode cX9_restoreSnapshot 11 = .ok (.ldc_w 418, 3) := by decide +kernel
theorem dX9_restoreSnapshot_14 : decode cX9_restoreSnapshot 14 = .ok (.invokespecial 357, 3) := by decide +kernel
theorem dX9_restoreSnapshot_17 : decode cX9_restoreSnapshot 17 = .ok (.athrow, 1) := by decide +kernel
theorem dX9_restoreSnapshot_18 : decode cX9_restoreSnapshot 18 = .ok (.aload_n 0, 1) := by decide +kernel
theorem dX9_restoreSnapshot_19 : decode cX9_restoreSnapshot 19 = .ok (.getfield 12, 3) := by decide +kernel
theorem dX9_restoreSnapshot_22 : decode cX9_restoreSnapshot 22 = .ok (.aload_n 0, 1) := by decide +kernel
theorem dX9_restoreSnapshot_23 : decode cX9_restoreSnapshot 23 = .ok (.getfield 35, 3) := by decide +kernel
theorem dX9_restoreSnapshot_26 : decode cX9_restoreSnapshot 26 = .ok (.invokevirtual 363, 3) := by decide +kernel
theorem dX9_restoreSnapshot_29 : decode cX9_restoreSnapshot 29 = .ok (.aload_n 0, 1) := by decide +kernel
theorem dX9_restoreSnapshot_30 : decode cX9_restoreSnapshot 30 = .ok (.getfield 28, 3) := by decide +kernel
theorem dX9_restoreSnapshot_33 : decode cX9_restoreSnapshot 33 = .ok (.invokevirtual 420, 3) := by decide +kernel
theorem dX9_restoreSnapshot_36 : decode cX9_restoreSnapshot 36 = .ok (.aload_n 0, 1) := by decide +kernel
theorem dX9_restoreSnapshot_37 : decode cX9_restoreSnapshot 37 = .ok (.getfield 12, 3) := by decide +kernel
theorem dX9_restoreSnapshot_40 : decode cX9_restoreSnapshot 40 = .ok (.invokevirtual 293, 3) := by decide +kernel
theorem dX9_restoreSnapshot_43 : decode cX9_restoreSnapshot 43 = .ok (.ireturn, 1) := by decide +kernel
theorem dX9_isStride_0 : decode cX9_isStride 0 = .ok (.iload_n 0, 1) := by decide +kernel
theorem dX9_isStride_1 : decode cX9_isStride 1 = .ok (.iconst 1, 1) := by decide +kernel
theorem dX9_isStride_2 : decode cX9_isStride 2 = .ok (.if_icmp .lt 13, 3) := by decide +kernel
theorem dX9_isStride_5 : decode cX9_isStride 5 = .ok (.iload_n 0, 1) := by decide +kernel
theorem dX9_isStride_6 : decode cX9_isStride 6 = .ok (.bipush 9, 2) := by decide +kernel
theorem dX9_isStride_8 : decode cX9_isStride 8 = .ok (.if_icmp .gt 7, 3) := by decide +kernel
theorem dX9_isStride_11 : decode cX9_isStride 11 = .ok (.iconst 1, 1) := by decide +kernel
theorem dX9_isStride_12 : decode cX9_isStride 12 = .ok (.goto 4, 3) := by decide +kernel
theorem dX9_isStride_15 : decode cX9_isStride 15 = .ok (.iconst 0, 1) := by decide +kernel
theorem dX9_isStride_16 : decode cX9_isStride 16 = .ok (.ireturn, 1) := by decide +kernel
theorem dX9_isTime_0 : decode cX9_isTime 0 = .ok (.iload_n 0, 1) := by decide +kernel
theorem dX9_isTime_1 : decode cX9_isTime 1 = .ok (.ifCond .lt 14, 3) := by decide +kernel
theorem dX9_isTime_4 : decode cX9_isTime 4 = .ok (.iload_n 0, 1) := by decide +kernel
theorem dX9_isTime_5 : decode cX9_isTime 5 = .ok (.sipush 999, 3) := by decide +kernel
theorem dX9_isTime_8 : decode cX9_isTime 8 = .ok (.if_icmp .gt 7, 3) := by decide +kernel
theorem dX9_isTime_11 : decode cX9_isTime 11 = .ok (.iconst 1, 1) := by decide +kernel
theorem dX9_isTime_12 : decode cX9_isTime 12 = .ok (.goto 4, 3) := by decide +kernel
theorem dX9_isTime_15 : decode cX9_isTime 15 = .ok (.iconst 0, 1) := by decide +kernel
theorem dX9_isTime_16 : decode cX9_isTime 16 = .ok (.ireturn, 1) := by decide +kernel
theorem dX9_isDepth_0 : decode cX9_isDepth 0 = .ok (.iload_n 0, 1) := by decide +kernel
theorem dX9_isDepth_1 : decode cX9_isDepth 1 = .ok (.iconst 1, 1) := by decide +kernel
theorem dX9_isDepth_2 : decode cX9_isDepth 2 = .ok (.if_icmp .lt 13, 3) := by decide +kernel
theorem dX9_isDepth_5 : decode cX9_isDepth 5 = .ok (.iload_n 0, 1) := by decide +kernel
theorem dX9_isDepth_6 : decode cX9_isDepth 6 = .ok (.bipush 9, 2) := by decide +kernel
theorem dX9_isDepth_8 : decode cX9_isDepth 8 = .ok (.if_icmp .gt 7, 3) := by decide +kernel
theorem dX9_isDepth_11 : decode cX9_isDepth 11 = .ok (.iconst 1, 1) := by decide +kernel
theorem dX9_isDepth_12 : decode cX9_isDepth 12 = .ok (.goto 4, 3) := by decide +kernel
theorem dX9_isDepth_15 : decode cX9_isDepth 15 = .ok (.iconst 0, 1) := by decide +kernel
theorem dX9_isDepth_16 : decode cX9_isDepth 16 = .ok (.ireturn, 1) := by decide +kernel
theorem dX9_isLevel_0 : decode cX9_isLevel 0 = .ok (.iload_n 0, 1) := by decide +kernel
theorem dX9_isLevel_1 : decode cX9_isLevel 1 = .ok (.ifCond .lt 13, 3) := by decide +kernel
theorem dX9_isLevel_4 : decode cX9_isLevel 4 = .ok (.iload_n 0, 1) := by decide +kernel
theorem dX9_isLevel_5 : decode cX9_isLevel 5 = .ok (.bipush 8, 2) := by decide +kernel
theorem dX9_isLevel_7 : decode cX9_isLevel 7 = .ok (.if_icmp .gt 7, 3) := by decide +kernel
theorem dX9_isLevel_10 : decode cX9_isLevel 10 = .ok (.iconst 1, 1) := by decide +kernel
theorem dX9_isLevel_11 : decode cX9_isLevel 11 = .ok (.goto 4, 3) := by decide +kernel
theorem dX9_isLevel_14 : decode cX9_isLevel 14 = .ok (.iconst 0, 1) := by decide +kernel
theorem dX9_isLevel_15 : decode cX9_isLevel 15 = .ok (.ireturn, 1) := by decide +kernel
theorem dX9_isRow_0 : decode cX9_isRow 0 = .ok (.iload_n 0, 1) := by decide +kernel
theorem dX9_isRow_1 : decode cX9_isRow 1 = .ok (.ifCond .lt 13, 3) := by decide +kernel
theorem dX9_isRow_4 : decode cX9_isRow 4 = .ok (.iload_n 0, 1) := by decide +kernel
theorem dX9_isRow_5 : decode cX9_isRow 5 = .ok (.bipush 10, 2) := by decide +kernel
theorem dX9_isRow_7 : decode cX9_isRow 7 = .ok (.if_icmp .ge 7, 3) := by decide +kernel
theorem dX9_isRow_10 : decode cX9_isRow 10 = .ok (.iconst 1, 1) := by decide +kernel
theorem dX9_isRow_11 : decode cX9_isRow 11 = .ok (.goto 4, 3) := by decide +kernel
theorem dX9_isRow_14 : decode cX9_isRow 14 = .ok (.iconst 0, 1) := by decide +kernel
theorem dX9_isRow_15 : decode cX9_isRow 15 = .ok (.ireturn, 1) := by decide +kernel
set_option maxRecDepth 20000 in
theorem ggX9_isCell_X9_isRow : GoodIn wsX9_isCell wsX9_isRow := goodIn_r _ [4] (by decide +kernel) (by decide +kernel)
set_option maxRecDepth 20000 in
theorem gX9_isCell_X9_isRow : GoodIn wsX9_isCell (va_wsS RX9 421 yX9_isRow wsX9_isRow) := goodIn_app (goodIn_of _ (by decide +kernel)) ggX9_isCell_X9_isRow
theorem dX9_isCell_0 : decode cX9_isCell 0 = .ok (.iload_n 0, 1) := by decide +kernel
theorem dX9_isCell_1 : decode cX9_isCell 1 = .ok (.invokestatic 421, 3) := by decide +kernel
theorem dX9_isCell_4 : decode cX9_isCell 4 = .ok (.ifCond .eq 17, 3) := by decide +kernel
theorem dX9_isCell_7 : decode cX9_isCell 7 = .ok (.iload_n 1, 1) := by decide +kernel
theorem dX9_isCell_8 : decode cX9_isCell 8 = .ok (.ifCond .lt 13, 3) := by decide +kernel
theorem dX9_isCell_11 : decode cX9_isCell 11 = .ok (.iload_n 1, 1) := by decide +kernel
theorem dX9_isCell_12 : decode cX9_isCell 12 = .ok (.bipush 20, 2) := by decide +kernel
theorem dX9_isCell_14 : decode cX9_isCell 14 = .ok (.if_icmp .ge 7, 3) := by decide +kernel
theorem dX9_isCell_17 : decode cX9_isCell 17 = .ok (.iconst 1, 1) := by decide +kernel
theorem dX9_isCell_18 : decode cX9_isCell 18 = .ok (.goto 4, 3) := by decide +kernel
theorem dX9_isCell_21 : decode cX9_isCell 21 = .ok (.iconst 0, 1) := by decide +kernel
theorem dX9_isCell_22 : decode cX9_isCell 22 = .ok (.ireturn, 1) := by decide +kernel
set_option maxRecDepth 20000 in
theorem ggX9_requireTrack_X0_findTrack : GoodIn wsX9_requireTrack wsX0_findTrack := goodIn_r _ [8, 9, 10, 11, 22, 23, 24, 25, 26, 27, 28, 29, 30, 31] (by decide +kernel) (by decide +kernel)
set_option maxRecDepth 20000 in
theorem gX9_requireTrack_X0_findTrack : GoodIn wsX9_requireTrack (wsV RX9 424 RX0 yX0_findTrack wsX0_findTrack) := goodIn_app (goodIn_of _ (by decide +kernel)) ggX9_requireTrack_X0_findTrack
theorem dX9_requireTrack_0 : decode cX9_requireTrack 0 = .ok (.aload_n 0, 1) := by decide +kernel
theorem dX9_requireTrack_1 : decode cX9_requireTrack 1 = .ok (.getfield 12, 3) := by decide +kernel
theorem dX9_requireTrack_4 : decode cX9_requireTrack 4 = .ok (.iload_n 1, 1) := by decide +kernel
theorem dX9_requireTrack_5 : decode cX9_requireTrack 5 = .ok (.invokevirtual 424, 3) := by decide +kernel
theorem dX9_requireTrack_8 : decode cX9_requireTrack 8 = .ok (.astore_n 2, 1) := by decide +kernel
theorem dX9_requireTrack_9 : decode cX9_requireTrack 9 = .ok (.aload_n 2, 1) := by decide +kernel
theorem dX9_requireTrack_10 : decode cX9_requireTrack 10 = .ok (.ifnonnull 14, 3) := by decide +kernel
theorem dX9_requireTrack_13 : decode cX9_requireTrack 13 = .ok (.new 336, 3) := by decide +kernel
theorem dX9_requireTrack_16 : decode cX9_requireTrack 16 = .ok (.dup, 1) := by decide +kernel
theorem dX9_requireTrack_17 : decode cX9_requireTrack 17 = .ok (.ldc_w 427, 3) := by decide +kernel
theorem dX9_requireTrack_20 : decode cX9_requireTrack 20 = .ok (.invokespecial 340, 3) := by decide +kernel
theorem dX9_requireTrack_23 : decode cX9_requireTrack 23 = .ok (.athrow, 1) := by decide +kernel
theorem dX9_requireTrack_24 : decode cX9_requireTrack 24 = .ok (.aload_n 2, 1) := by decide +kernel
theorem dX9_requireTrack_25 : decode cX9_requireTrack 25 = .ok (.areturn, 1) := by decide +kernel
set_option maxRecDepth 20000 in
theorem ggX9_requirePrint_X0_findPrint : GoodIn wsX9_requirePrint wsX0_findPrint := goodIn_r _ [8, 9, 10, 11, 22, 23, 24, 25, 26, 27, 28, 29, 30, 31, 32, 33, 34, 35, 36, 37, 38] (by decide +kernel) (by decide +kernel)
set_option maxRecDepth 20000 in
theorem gX9_requirePrint_X0_findPrint : GoodIn wsX9_requirePrint (wsV RX9 429 RX0 yX0_findPrint wsX0_findPrint) := goodIn_app (goodIn_of _ (by decide +kernel)) ggX9_requirePrint_X0_findPrint
theorem dX9_requirePrint_0 : decode cX9_requirePrint 0 = .ok (.aload_n 0, 1) := by decide +kernel
theorem dX9_requirePrint_1 : decode cX9_requirePrint 1 = .ok (.getfield 12, 3) := by decide +kernel
theorem dX9_requirePrint_4 : decode cX9_requirePrint 4 = .ok (.iload_n 1, 1) := by decide +kernel
theorem dX9_requirePrint_5 : decode cX9_requirePrint 5 = .ok (.invokevirtual 429, 3) := by decide +kernel
theorem dX9_requirePrint_8 : decode cX9_requirePrint 8 = .ok (.astore_n 2, 1) := by decide +kernel
theorem dX9_requirePrint_9 : decode cX9_requirePrint 9 = .ok (.aload_n 2, 1) := by decide +kernel
theorem dX9_requirePrint_10 : decode cX9_requirePrint 10 = .ok (.ifnonnull 14, 3) := by decide +kernel
theorem dX9_requirePrint_13 : decode cX9_requirePrint 13 = .ok (.new 336, 3) := by decide +kernel
theorem dX9_requirePrint_16 : decode cX9_requirePrint 16 = .ok (.dup, 1) := by decide +kernel
theorem dX9_requirePrint_17 : decode cX9_requirePrint 17 = .ok (.ldc_w 432, 3) := by decide +kernel
theorem dX9_requirePrint_20 : decode cX9_requirePrint 20 = .ok (.invokespecial 340, 3) := by decide +kernel
theorem dX9_requirePrint_23 : decode cX9_requirePrint 23 = .ok (.athrow, 1) := by decide +kernel
theorem dX9_requirePrint_24 : decode cX9_requirePrint 24 = .ok (.aload_n 2, 1) := by decide +kernel
theorem dX9_requirePrint_25 : decode cX9_requirePrint 25 = .ok (.areturn, 1) := by decide +kernel
set_option maxRecDepth 20000 in
theorem ggX9_requireCell_X9_isCell : GoodIn wsX9_requireCell wsX9_isCell := goodIn_r _ [6, 7, 8, 5, 9] (by decide +kernel) (by decide +kernel)
set_option maxRecDepth 20000 in
theorem gX9_requireCell_X9_isCell : GoodIn wsX9_requireCell (va_wsS RX9 434 yX9_isCell wsX9_isCell) := goodIn_app (goodIn_of _ (by decide +kernel)) ggX9_requireCell_X9_isCell
theorem dX9_requireCell_0 : decode cX9_requireCell 0 = .ok (.iload_n 0, 1) := by decide +kernel
theorem dX9_requireCell_1 : decode cX9_requireCell 1 = .ok (.iload_n 1, 1) := by decide +kernel
theorem dX9_requireCell_2 : decode cX9_requireCell 2 = .ok (.invokestatic 434, 3) := by decide +kernel
theorem dX9_requireCell_5 : decode cX9_requireCell 5 = .ok (.ifCond .ne 14, 3) := by decide +kernel
theorem dX9_requireCell_8 : decode cX9_requireCell 8 = .ok (.new 336, 3) := by decide +kernel
theorem dX9_requireCell_11 : decode cX9_requireCell 11 = .ok (.dup, 1) := by decide +kernel
theorem dX9_requireCell_12 : decode cX9_requireCell 12 = .ok (.ldc_w 438, 3) := by decide +kernel
theorem dX9_requireCell_15 : decode cX9_requireCell 15 = .ok (.invokespecial 340, 3) := by decide +kernel
theorem dX9_requireCell_18 : decode cX9_requireCell 18 = .ok (.athrow, 1) := by decide +kernel
theorem dX9_requireCell_19 : decode cX9_requireCell 19 = .ok (.return_, 1) := by decide +kernel
set_option maxRecDepth 20000 in
theorem ggX9_requireRow_X9_isRow : GoodIn wsX9_requireRow wsX9_isRow := goodIn_r _ [6] (by decide +kernel) (by decide +kernel)
set_option maxRecDepth 20000 in
theorem gX9_requireRow_X9_isRow : GoodIn wsX9_requireRow (va_wsS RX9 421 yX9_isRow wsX9_isRow) := goodIn_app (goodIn_of _ (by decide +kernel)) ggX9_requireRow_X9_isRow
theorem dX9_requireRow_0 : decode cX9_requireRow 0 = .ok (.iload_n 0, 1) := by decide +kernel
theorem dX9_requireRow_1 : decode cX9_requireRow 1 = .ok (.invokestatic 421, 3) := by decide +kernel
theorem dX9_requireRow_4 : decode cX9_requireRow 4 = .ok (.ifCond .ne 14, 3) := by decide +kernel
theorem dX9_requireRow_7 : decode cX9_requireRow 7 = .ok (.new 336, 3) := by decide +kernel
theorem dX9_requireRow_10 : decode cX9_requireRow 10 = .ok (.dup, 1) := by decide +kernel
theorem dX9_requireRow_11 : decode cX9_requireRow 11 = .ok (.ldc_w 440, 3) := by decide +kernel
theorem dX9_requireRow_14 : decode cX9_requireRow 14 = .ok (.invokespecial 340, 3) := by decide +kernel
theorem dX9_requireRow_17 : decode cX9_requireRow 17 = .ok (.athrow, 1) := by decide +kernel
theorem dX9_requireRow_18 : decode cX9_requireRow 18 = .ok (.return_, 1) := by decide +kernel
set_option maxRecDepth 20000 in
theorem ggX9_requireLevel_X9_isLevel : GoodIn wsX9_requireLevel wsX9_isLevel := goodIn_r _ [6] (by decide +kernel) (by decide +kernel)
set_option maxRecDepth 20000 in
theorem gX9_requireLevel_X9_isLevel : GoodIn wsX9_requireLevel (va_wsS RX9 442 yX9_isLevel wsX9_isLevel) := goodIn_app (goodIn_of _ (by decide +kernel)) ggX9_requireLevel_X9_isLevel
theorem dX9_requireLevel_0 : decode cX9_requireLevel 0 = .ok (.iload_n 0, 1) := by decide +kernel
theorem dX9_requireLevel_1 : decode cX9_requireLevel 1 = .ok (.invokestatic 442, 3) := by decide +kernel
theorem dX9_requireLevel_4 : decode cX9_requireLevel 4 = .ok (.ifCond .ne 14, 3) := by decide +kernel
theorem dX9_requireLevel_7 : decode cX9_requireLevel 7 = .ok (.new 70, 3) := by decide +kernel
theorem dX9_requireLevel_10 : decode cX9_requireLevel 10 = .ok (.dup, 1) := by decide +kernel
theorem dX9_requireLevel_11 : decode cX9_requireLevel 11 = .ok (.ldc_w 445, 3) := by decide +kernel
theorem dX9_requireLevel_14 : decode cX9_requireLevel 14 = .ok (.invokespecial 74, 3) := by decide +kernel
theorem dX9_requireLevel_17 : decode cX9_requireLevel 17 = .ok (.athrow, 1) := by decide +kernel
theorem dX9_requireLevel_18 : decode cX9_requireLevel 18 = .ok (.return_, 1) := by decide +kernel
theorem dX9_requireFound_0 : decode cX9_requireFound 0 = .ok (.aload_n 0, 1) := by decide +kernel
theorem dX9_requireFound_1 : decode cX9_requireFound 1 = .ok (.ifnonnull 14, 3) := by decide +kernel
theorem dX9_requireFound_4 : decode cX9_requireFound 4 = .ok (.new 265, 3) := by decide +kernel
theorem dX9_requireFound_7 : decode cX9_requireFound 7 = .ok (.dup, 1) := by decide +kernel
theorem dX9_requireFound_8 : decode cX9_requireFound 8 = .ok (.ldc_w 447, 3) := by decide +kernel
theorem dX9_requireFound_11 : decode cX9_requireFound 11 = .ok (.invokespecial 269, 3) := by decide +kernel
theorem dX9_requireFound_14 : decode cX9_requireFound 14 = .ok (.athrow, 1) := by decide +kernel
theorem dX9_requireFound_15 : decode cX9_requireFound 15 = .ok (.aload_n 0, 1) := by decide +kernel
theorem dX9_requireFound_16 : decode cX9_requireFound 16 = .ok (.areturn, 1) := by decide +kernel
theorem dX9_requireRejection_0 : decode cX9_requireRejection 0 = .ok (.aload_n 0, 1) := by decide +kernel
theorem dX9_requireRejection_1 : decode cX9_requireRejection 1 = .ok (.ifnonnull 14, 3) := by decide +kernel
theorem dX9_requireRejection_4 : decode cX9_requireRejection 4 = .ok (.new 265, 3) := by decide +kernel
theorem dX9_requireRejection_7 : decode cX9_requireRejection 7 = .ok (.dup, 1) := by decide +kernel
theorem dX9_requireRejection_8 : decode cX9_requireRejection 8 = .ok (.ldc_w 449, 3) := by decide +kernel
theorem dX9_requireRejection_11 : decode cX9_requireRejection 11 = .ok (.invokespecial 269, 3) := by decide +kernel
theorem dX9_requireRejection_14 : decode cX9_requireRejection 14 = .ok (.athrow, 1) := by decide +kernel
theorem dX9_requireRejection_15 : decode cX9_requireRejection 15 = .ok (.aload_n 0, 1) := by decide +kernel
theorem dX9_requireRejection_16 : decode cX9_requireRejection 16 = .ok (.areturn, 1) := by decide +kernel
theorem dX9_rejectFor_0 : decode cX9_rejectFor 0 = .ok (.aload_n 1, 1) := by decide +kernel
theorem dX9_rejectFor_1 : decode cX9_rejectFor 1 = .ok (.ifnull 19, 3) := by decide +kernel
theorem dX9_rejectFor_4 : decode cX9_rejectFor 4 = .ok (.aload_n 0, 1) := by decide +kernel
theorem dX9_rejectFor_5 : decode cX9_rejectFor 5 = .ok (.aload_n 1, 1) := by decide +kernel
theorem dX9_rejectFor_6 : decode cX9_rejectFor 6 = .ok (.putfield 58, 3) := by decide +kernel
theorem dX9_rejectFor_9 : decode cX9_rejectFor 9 = .ok (.new 451, 3) := by decide +kernel
theorem dX9_rejectFor_12 : decode cX9_rejectFor 12 = .ok (.dup, 1) := by decide +kernel
theorem dX9_rejectFor_13 : decode cX9_rejectFor 13 = .ok (.ldc_w 453, 3) := by decide +kernel
theorem dX9_rejectFor_16 : decode cX9_rejectFor 16 = .ok (.invokespecial 455, 3) := by decide +kernel
theorem dX9_rejectFor_19 : decode cX9_rejectFor 19 = .ok (.athrow, 1) := by decide +kernel
theorem dX9_rejectFor_20 : decode cX9_rejectFor 20 = .ok (.return_, 1) := by decide +kernel
