theorem dX4_init_0 : decode cX4_init 0 = .ok (.aload_n 0, 1) := by decide +kernel
theorem dX4_init_1 : decode cX4_init 1 = .ok (.invokespecial 3, 3) := by decide +kernel
theorem dX4_init_4 : decode cX4_init 4 = .ok (.aload_n 0, 1) := by decide +kernel
theorem dX4_init_5 : decode cX4_init 5 = .ok (.aload_n 1, 1) := by decide +kernel
theorem dX4_init_6 : decode cX4_init 6 = .ok (.putfield 9, 3) := by decide +kernel
theorem dX4_init_9 : decode cX4_init 9 = .ok (.return_, 1) := by decide +kernel
set_option maxRecDepth 20000 in
theorem ggX4_strideIsWrong_X0_before : GoodIn wsX4_strideIsWrong wsX0_before := goodIn_r _ [6, 7, 8, 9, 10, 11, 12, 13, 14, 15, 16, 44, 45, 46, 47, 48, 49, 50, 51, 52, 53, 54, 55, 56, 57, 58, 59, 60] (by decide +kernel) (by decide +kernel)
set_option maxRecDepth 20000 in
theorem gX4_strideIsWrong_X0_before : GoodIn wsX4_strideIsWrong (wsV RX4 15 RX0 yX0_before wsX0_before) := goodIn_app (goodIn_of _ (by decide +kernel)) ggX4_strideIsWrong_X0_before
set_option maxRecDepth 20000 in
theorem ggX4_strideIsWrong_X4_isTooLong : GoodIn wsX4_strideIsWrong wsX4_isTooLong := goodIn_r _ [21, 1, 22, 23, 24, 25, 26, 27, 28, 5, 29, 30, 31, 32, 33, 34, 35, 13, 36, 37, 38, 39, 40, 41, 42, 43, 51, 52, 53, 54, 55, 56, 57, 58, 59, 60, 61, 62, 63, 44, 45, 46, 47, 48, 49, 50] (by decide +kernel) (by decide +kernel)
set_option maxRecDepth 20000 in
theorem gX4_strideIsWrong_X4_isTooLong : GoodIn wsX4_strideIsWrong (wsV RX4 21 RX4 yX4_isTooLong wsX4_isTooLong) := goodIn_app (goodIn_of _ (by decide +kernel)) ggX4_strideIsWrong_X4_isTooLong
theorem dX4_strideIsWrong_0 : decode cX4_strideIsWrong 0 = .ok (.aload_n 0, 1) := by decide +kernel
theorem dX4_strideIsWrong_1 : decode cX4_strideIsWrong 1 = .ok (.aload_n 0, 1) := by decide +kernel
theorem dX4_strideIsWrong_2 : decode cX4_strideIsWrong 2 = .ok (.getfield 9, 3) := by decide +kernel
theorem dX4_strideIsWrong_5 : decode cX4_strideIsWrong 5 = .ok (.aload_n 1, 1) := by decide +kernel
theorem dX4_strideIsWrong_6 : decode cX4_strideIsWrong 6 = .ok (.invokevirtual 15, 3) := by decide +kernel
theorem dX4_strideIsWrong_9 : decode cX4_strideIsWrong 9 = .ok (.aload_n 1, 1) := by decide +kernel
theorem dX4_strideIsWrong_10 : decode cX4_strideIsWrong 10 = .ok (.invokevirtual 21, 3) := by decide +kernel
theorem dX4_strideIsWrong_13 : decode cX4_strideIsWrong 13 = .ok (.ireturn, 1) := by decide +kernel
set_option maxRecDepth 20000 in
theorem ggX4_footIsWrong_X0_before : GoodIn wsX4_footIsWrong wsX0_before := goodIn_r _ [6, 7, 8, 9, 10, 11, 12, 13, 14, 15, 16, 24, 25, 26, 27, 28, 29, 30, 31, 32, 33, 34, 35, 36, 37, 38, 39, 40] (by decide +kernel) (by decide +kernel)
set_option maxRecDepth 20000 in
theorem gX4_footIsWrong_X0_before : GoodIn wsX4_footIsWrong (wsV RX4 15 RX0 yX0_before wsX0_before) := goodIn_app (goodIn_of _ (by decide +kernel)) ggX4_footIsWrong_X0_before
set_option maxRecDepth 20000 in
theorem ggX4_footIsWrong_X4_isSameFoot : GoodIn wsX4_footIsWrong wsX4_isSameFoot := goodIn_r _ [21, 22, 31, 32, 33, 34, 35, 36, 37, 38, 39, 40] (by decide +kernel) (by decide +kernel)
set_option maxRecDepth 20000 in
theorem gX4_footIsWrong_X4_isSameFoot : GoodIn wsX4_footIsWrong (wsV RX4 25 RX4 yX4_isSameFoot wsX4_isSameFoot) := goodIn_app (goodIn_of _ (by decide +kernel)) ggX4_footIsWrong_X4_isSameFoot
theorem dX4_footIsWrong_0 : decode cX4_footIsWrong 0 = .ok (.aload_n 0, 1) := by decide +kernel
theorem dX4_footIsWrong_1 : decode cX4_footIsWrong 1 = .ok (.aload_n 0, 1) := by decide +kernel
theorem dX4_footIsWrong_2 : decode cX4_footIsWrong 2 = .ok (.getfield 9, 3) := by decide +kernel
theorem dX4_footIsWrong_5 : decode cX4_footIsWrong 5 = .ok (.aload_n 1, 1) := by decide +kernel
theorem dX4_footIsWrong_6 : decode cX4_footIsWrong 6 = .ok (.invokevirtual 15, 3) := by decide +kernel
theorem dX4_footIsWrong_9 : decode cX4_footIsWrong 9 = .ok (.aload_n 1, 1) := by decide +kernel
theorem dX4_footIsWrong_10 : decode cX4_footIsWrong 10 = .ok (.invokevirtual 25, 3) := by decide +kernel
theorem dX4_footIsWrong_13 : decode cX4_footIsWrong 13 = .ok (.ireturn, 1) := by decide +kernel
set_option maxRecDepth 20000 in
theorem ggX4_depthIsWrong_X0_before : GoodIn wsX4_depthIsWrong wsX0_before := goodIn_r _ [6, 7, 8, 9, 10, 11, 12, 13, 14, 15, 16, 28, 29, 30, 31, 32, 33, 34, 35, 36, 37, 38, 39, 40, 41, 42, 43, 44] (by decide +kernel) (by decide +kernel)
set_option maxRecDepth 20000 in
theorem gX4_depthIsWrong_X0_before : GoodIn wsX4_depthIsWrong (wsV RX4 15 RX0 yX0_before wsX0_before) := goodIn_app (goodIn_of _ (by decide +kernel)) ggX4_depthIsWrong_X0_before
set_option maxRecDepth 20000 in
theorem ggX4_depthIsWrong_X4_isUneven : GoodIn wsX4_depthIsWrong wsX4_isUneven := goodIn_r _ [21, 22, 23, 24, 25, 26, 35, 36, 37, 38, 39, 40, 41, 42, 43, 44] (by decide +kernel) (by decide +kernel)
set_option maxRecDepth 20000 in
theorem gX4_depthIsWrong_X4_isUneven : GoodIn wsX4_depthIsWrong (wsV RX4 28 RX4 yX4_isUneven wsX4_isUneven) := goodIn_app (goodIn_of _ (by decide +kernel)) ggX4_depthIsWrong_X4_isUneven
theorem dX4_depthIsWrong_0 : decode cX4_depthIsWrong 0 = .ok (.aload_n 0, 1) := by decide +kernel
theorem dX4_depthIsWrong_1 : decode cX4_depthIsWrong 1 = .ok (.aload_n 0, 1) := by decide +kernel
theorem dX4_depthIsWrong_2 : decode cX4_depthIsWrong 2 = .ok (.getfield 9, 3) := by decide +kernel
theorem dX4_depthIsWrong_5 : decode cX4_depthIsWrong 5 = .ok (.aload_n 1, 1) := by decide +kernel
theorem dX4_depthIsWrong_6 : decode cX4_depthIsWrong 6 = .ok (.invokevirtual 15, 3) := by decide +kernel
theorem dX4_depthIsWrong_9 : decode cX4_depthIsWrong 9 = .ok (.aload_n 1, 1) := by decide +kernel
theorem dX4_depthIsWrong_10 : decode cX4_depthIsWrong 10 = .ok (.invokevirtual 28, 3) := by decide +kernel
theorem dX4_depthIsWrong_13 : decode cX4_depthIsWrong 13 = .ok (.ireturn, 1) := by decide +kernel
set_option maxRecDepth 20000 in
theorem ggX4_isTooLong_X0_findTrack : GoodIn wsX4_isTooLong wsX0_findTrack := goodIn_r _ [10, 11, 12, 13, 39, 40, 41, 42, 43, 44, 45, 36, 37, 38] (by decide +kernel) (by decide +kernel)
set_option maxRecDepth 20000 in
theorem gX4_isTooLong_X0_findTrack : GoodIn wsX4_isTooLong (wsV RX4 37 RX0 yX0_findTrack wsX0_findTrack) := goodIn_app (goodIn_of _ (by decide +kernel)) ggX4_isTooLong_X0_findTrack
set_option maxRecDepth 20000 in
theorem ggX4_isTooLong_X3_distanceTo : GoodIn wsX4_isTooLong wsX3_distanceTo := goodIn_r _ [18, 19, 20, 21, 22, 23, 24, 26, 27, 28, 29, 30, 31, 32, 33, 34, 35] (by decide +kernel) (by decide +kernel)
set_option maxRecDepth 20000 in
theorem gX4_isTooLong_X3_distanceTo : GoodIn wsX4_isTooLong (wsV RX4 47 RX3 yX3_distanceTo wsX3_distanceTo) := goodIn_app (goodIn_of _ (by decide +kernel)) ggX4_isTooLong_X3_distanceTo
theorem dX4_isTooLong_0 : decode cX4_isTooLong 0 = .ok (.aload_n 0, 1) := by decide +kernel
theorem dX4_isTooLong_1 : decode cX4_isTooLong 1 = .ok (.getfield 9, 3) := by decide +kernel
theorem dX4_isTooLong_4 : decode cX4_isTooLong 4 = .ok (.aload_n 2, 1) := by decide +kernel
theorem dX4_isTooLong_5 : decode cX4_isTooLong 5 = .ok (.getfield 31, 3) := by decide +kernel
theorem dX4_isTooLong_8 : decode cX4_isTooLong 8 = .ok (.invokevirtual 37, 3) := by decide +kernel
theorem dX4_isTooLong_11 : decode cX4_isTooLong 11 = .ok (.astore_n 3, 1) := by decide +kernel
theorem dX4_isTooLong_12 : decode cX4_isTooLong 12 = .ok (.aload_n 1, 1) := by decide +kernel
theorem dX4_isTooLong_13 : decode cX4_isTooLong 13 = .ok (.ifnull 30, 3) := by decide +kernel
theorem dX4_isTooLong_16 : decode cX4_isTooLong 16 = .ok (.aload_n 3, 1) := by decide +kernel
theorem dX4_isTooLong_17 : decode cX4_isTooLong 17 = .ok (.ifnull 26, 3) := by decide +kernel
theorem dX4_isTooLong_20 : decode cX4_isTooLong 20 = .ok (.aload_n 2, 1) := by decide +kernel
theorem dX4_isTooLong_21 : decode cX4_isTooLong 21 = .ok (.aload_n 1, 1) := by decide +kernel
theorem dX4_isTooLong_22 : decode cX4_isTooLong 22 = .ok (.getfield 41, 3) := by decide +kernel
theorem dX4_isTooLong_25 : decode cX4_isTooLong 25 = .ok (.aload_n 1, 1) := by decide +kernel
theorem dX4_isTooLong_26 : decode cX4_isTooLong 26 = .ok (.getfield 44, 3) := by decide +kernel
theorem dX4_isTooLong_29 : decode cX4_isTooLong 29 = .ok (.invokevirtual 47, 3) := by decide +kernel
theorem dX4_isTooLong_32 : decode cX4_isTooLong 32 = .ok (.aload_n 3, 1) := by decide +kernel
theorem dX4_isTooLong_33 : decode cX4_isTooLong 33 = .ok (.getfield 51, 3) := by decide +kernel
theorem dX4_isTooLong_36 : decode cX4_isTooLong 36 = .ok (.if_icmp .le 7, 3) := by decide +kernel
theorem dX4_isTooLong_39 : decode cX4_isTooLong 39 = .ok (.iconst 1, 1) := by decide +kernel
theorem dX4_isTooLong_40 : decode cX4_isTooLong 40 = .ok (.goto 4, 3) := by decide +kernel
theorem dX4_isTooLong_43 : decode cX4_isTooLong 43 = .ok (.iconst 0, 1) := by decide +kernel
theorem dX4_isTooLong_44 : decode cX4_isTooLong 44 = .ok (.ireturn, 1) := by decide +kernel
theorem dX4_isSameFoot_0 : decode cX4_isSameFoot 0 = .ok (.aload_n 1, 1) := by decide +kernel
theorem dX4_isSameFoot_1 : decode cX4_isSameFoot 1 = .ok (.ifnull 18, 3) := by decide +kernel
theorem dX4_isSameFoot_4 : decode cX4_isSameFoot 4 = .ok (.aload_n 1, 1) := by decide +kernel
theorem dX4_isSameFoot_5 : decode cX4_isSameFoot 5 = .ok (.getfield 56, 3) := by decide +kernel
theorem dX4_isSameFoot_8 : decode cX4_isSameFoot 8 = .ok (.aload_n 2, 1) := by decide +kernel
theorem dX4_isSameFoot_9 : decode cX4_isSameFoot 9 = .ok (.getfield 56, 3) := by decide +kernel
theorem dX4_isSameFoot_12 : decode cX4_isSameFoot 12 = .ok (.if_icmp .ne 7, 3) := by decide +kernel
theorem dX4_isSameFoot_15 : decode cX4_isSameFoot 15 = .ok (.iconst 1, 1) := by decide +kernel
theorem dX4_isSameFoot_16 : decode cX4_isSameFoot 16 = .ok (.goto 4, 3) := by decide +kernel
theorem dX4_isSameFoot_19 : decode cX4_isSameFoot 19 = .ok (.iconst 0, 1) := by decide +kernel
theorem dX4_isSameFoot_20 : decode cX4_isSameFoot 20 = .ok (.ireturn, 1) := by decide +kernel
theorem dX4_isUneven_0 : decode cX4_isUneven 0 = .ok (.aload_n 1, 1) := by decide +kernel
theorem dX4_isUneven_1 : decode cX4_isUneven 1 = .ok (.ifnull 23, 3) := by decide +kernel
theorem dX4_isUneven_4 : decode cX4_isUneven 4 = .ok (.aload_n 1, 1) := by decide +kernel
theorem dX4_isUneven_5 : decode cX4_isUneven 5 = .ok (.getfield 60, 3) := by decide +kernel
theorem dX4_isUneven_8 : decode cX4_isUneven 8 = .ok (.aload_n 2, 1) := by decide +kernel
theorem dX4_isUneven_9 : decode cX4_isUneven 9 = .ok (.getfield 60, 3) := by decide +kernel
theorem dX4_isUneven_12 : decode cX4_isUneven 12 = .ok (.isub, 1) := by decide +kernel
theorem dX4_isUneven_13 : decode cX4_isUneven 13 = .ok (.invokestatic 63, 3) := by decide +kernel
theorem dX4_isUneven_16 : decode cX4_isUneven 16 = .ok (.iconst 3, 1) := by decide +kernel
theorem dX4_isUneven_17 : decode cX4_isUneven 17 = .ok (.if_icmp .le 7, 3) := by decide +kernel
theorem dX4_isUneven_20 : decode cX4_isUneven 20 = .ok (.iconst 1, 1) := by decide +kernel
theorem dX4_isUneven_21 : decode cX4_isUneven 21 = .ok (.goto 4, 3) := by decide +kernel
theorem dX4_isUneven_24 : decode cX4_isUneven 24 = .ok (.iconst 0, 1) := by decide +kernel
theorem dX4_isUneven_25 : decode cX4_isUneven 25 = .ok (.ireturn, 1) := by decide +kernel
set_option maxRecDepth 20000 in
theorem ggX4_hasError_X4_strideIsWrong : GoodIn wsX4_hasError wsX4_strideIsWrong := goodIn_r _ [5, 6, 7, 8, 9, 10, 11, 12, 13, 14, 15, 16, 17, 18, 19, 20, 21, 22, 23, 24, 4, 25, 26, 27, 28, 29, 30, 31, 32, 33, 34, 35, 36, 37, 38, 39, 40, 41, 42, 43, 44, 45, 46, 66, 67, 68, 69, 70, 71, 72, 73, 74, 75, 76, 77, 78, 79, 80, 81, 82, 83, 84, 85, 86] (by decide +kernel) (by decide +kernel)
set_option maxRecDepth 20000 in
theorem gX4_hasError_X4_strideIsWrong : GoodIn wsX4_hasError (wsV RX4 69 RX4 yX4_strideIsWrong wsX4_strideIsWrong) := goodIn_app (goodIn_of _ (by decide +kernel)) ggX4_hasError_X4_strideIsWrong
set_option maxRecDepth 20000 in
theorem ggX4_hasError_X4_footIsWrong : GoodIn wsX4_hasError wsX4_footIsWrong := goodIn_r _ [50, 6, 7, 8, 9, 10, 11, 12, 13, 14, 15, 16, 17, 18, 19, 20, 21, 51, 52, 53, 4, 54, 55, 66, 67, 68, 69, 70, 71, 72, 73, 74, 75, 76, 77, 78, 79, 80, 81, 82, 83] (by decide +kernel) (by decide +kernel)
set_option maxRecDepth 20000 in
theorem gX4_hasError_X4_footIsWrong : GoodIn wsX4_hasError (wsV RX4 73 RX4 yX4_footIsWrong wsX4_footIsWrong) := goodIn_app (goodIn_of _ (by decide +kernel)) ggX4_hasError_X4_footIsWrong
set_option maxRecDepth 20000 in
theorem ggX4_hasError_X4_depthIsWrong : GoodIn wsX4_hasError wsX4_depthIsWrong := goodIn_r _ [59, 6, 7, 8, 9, 10, 11, 12, 13, 14, 15, 16, 17, 18, 19, 20, 21, 60, 61, 62, 4, 63, 64, 65, 43, 44, 45, 66, 67, 68, 69, 70, 71, 72, 73, 74, 75, 76, 77, 78, 79, 80, 81, 82, 83] (by decide +kernel) (by decide +kernel)
set_option maxRecDepth 20000 in
theorem gX4_hasError_X4_depthIsWrong : GoodIn wsX4_hasError (wsV RX4 76 RX4 yX4_depthIsWrong wsX4_depthIsWrong) := goodIn_app (goodIn_of _ (by decide +kernel)) ggX4_hasError_X4_depthIsWrong
theorem dX4_hasError_0 : decode cX4_hasError 0 = .ok (.aload_n 0, 1) := by decide +kernel
theorem dX4_hasError_1 : decode cX4_hasError 1 = .ok (.aload_n 1, 1) := by decide +kernel
theorem dX4_hasError_2 : decode cX4_hasError 2 = .ok (.invokevirtual 69, 3) := by decide +kernel
theorem dX4_hasError_5 : decode cX4_hasError 5 = .ok (.ifCond .ne 19, 3) := by decide +kernel
theorem dX4_hasError_8 : decode cX4_hasError 8 = .ok (.aload_n 0, 1) := by decide +kernel
theorem dX4_hasError_9 : decode cX4_hasError 9 = .ok (.aload_n 1, 1) := by decide +kernel
theorem dX4_hasError_10 : decode cX4_hasError 10 = .ok (.invokevirtual 73, 3) := by decide +kernel
theorem dX4_hasError_13 : decode cX4_hasError 13 = .ok (.ifCond .ne 11, 3) := by decide +kernel
theorem dX4_hasError_16 : decode cX4_hasError 16 = .ok (.aload_n 0, 1) := by decide +kernel
theorem dX4_hasError_17 : decode cX4_hasError 17 = .ok (.aload_n 1, 1) := by decide +kernel
theorem dX4_hasError_18 : decode cX4_hasError 18 = .ok (.invokevirtual 76, 3) := by decide +kernel
theorem dX4_hasError_21 : decode cX4_hasError 21 = .ok (.ifCond .eq 7, 3) := by decide +kernel
theorem dX4_hasError_24 : decode cX4_hasError 24 = .ok (.iconst 1, 1) := by decide +kernel
theorem dX4_hasError_25 : decode cX4_hasError 25 = .ok (.goto 4, 3) := by decide +kernel
theorem dX4_hasError_28 : decode cX4_hasError 28 = .ok (.iconst 0, 1) := by decide +kernel
theorem dX4_hasError_29 : decode cX4_hasError 29 = .ok (.ireturn, 1) := by decide +kernel
set_option maxRecDepth 20000 in
theorem ggX4_errorsByPrints_X3_isOn : GoodIn wsX4_errorsByPrints wsX3_isOn := goodIn_r _ [7, 8, 9, 64, 65, 66, 67, 68, 69, 70, 71, 72, 73] (by decide +kernel) (by decide +kernel)
set_option maxRecDepth 20000 in
theorem gX4_errorsByPrints_X3_isOn : GoodIn wsX4_errorsByPrints (wsV RX4 83 RX3 yX3_isOn wsX3_isOn) := goodIn_app (goodIn_of _ (by decide +kernel)) ggX4_errorsByPrints_X3_isOn
set_option maxRecDepth 20000 in
theorem ggX4_errorsByPrints_X0_before : GoodIn wsX4_errorsByPrints wsX0_before := goodIn_r _ [14, 15, 16, 17, 18, 4, 5, 6, 7, 8, 9, 57, 58, 59, 60, 61, 62, 63, 64, 65, 66, 67, 68, 69, 70, 71, 72, 73] (by decide +kernel) (by decide +kernel)
set_option maxRecDepth 20000 in
theorem gX4_errorsByPrints_X0_before : GoodIn wsX4_errorsByPrints (wsV RX4 15 RX0 yX0_before wsX0_before) := goodIn_app (goodIn_of _ (by decide +kernel)) ggX4_errorsByPrints_X0_before
set_option maxRecDepth 20000 in
theorem ggX4_errorsByPrints_X4_isTooLong : GoodIn wsX4_errorsByPrints wsX4_isTooLong := goodIn_r _ [23, 1, 24, 25, 26, 27, 28, 29, 30, 13, 31, 32, 33, 34, 35, 36, 37, 6, 38, 39, 40, 41, 42, 43, 44, 56, 64, 65, 66, 67, 68, 69, 70, 71, 72, 73, 74, 75, 76, 57, 58, 59, 60, 61, 62, 63] (by decide +kernel) (by decide +kernel)
set_option maxRecDepth 20000 in
theorem gX4_errorsByPrints_X4_isTooLong : GoodIn wsX4_errorsByPrints (wsV RX4 21 RX4 yX4_isTooLong wsX4_isTooLong) := goodIn_app (goodIn_of _ (by decide +kernel)) ggX4_errorsByPrints_X4_isTooLong
set_option maxRecDepth 20000 in
theorem ggX4_errorsByPrints_X4_isSameFoot : GoodIn wsX4_errorsByPrints wsX4_isSameFoot := goodIn_r _ [48, 49, 64, 65, 66, 67, 68, 69, 70, 71, 72, 73] (by decide +kernel) (by decide +kernel)
set_option maxRecDepth 20000 in
theorem gX4_errorsByPrints_X4_isSameFoot : GoodIn wsX4_errorsByPrints (wsV RX4 25 RX4 yX4_isSameFoot wsX4_isSameFoot) := goodIn_app (goodIn_of _ (by decide +kernel)) ggX4_errorsByPrints_X4_isSameFoot
set_option maxRecDepth 20000 in
theorem ggX4_errorsByPrints_X4_isUneven : GoodIn wsX4_errorsByPrints wsX4_isUneven := goodIn_r _ [53, 54, 55, 41, 42, 43, 64, 65, 66, 67, 68, 69, 70, 71, 72, 73] (by decide +kernel) (by decide +kernel)
set_option maxRecDepth 20000 in
theorem gX4_errorsByPrints_X4_isUneven : GoodIn wsX4_errorsByPrints (wsV RX4 28 RX4 yX4_isUneven wsX4_isUneven) := goodIn_app (goodIn_of _ (by decide +kernel)) ggX4_errorsByPrints_X4_isUneven
theorem dX4_errorsByPrints_0 : decode cX4_errorsByPrints 0 = .ok (.iconst 0, 1) := by decide +kernel
theorem dX4_errorsByPrints_1 : decode cX4_errorsByPrints 1 = .ok (.istore_n 2, 1) := by decide +kernel
theorem dX4_errorsByPrints_2 : decode cX4_errorsByPrints 2 = .ok (.aload_n 0, 1) := by decide +kernel
theorem dX4_errorsByPrints_3 : decode cX4_errorsByPrints 3 = .ok (.getfield 9, 3) := by decide +kernel
theorem dX4_errorsByPrints_6 : decode cX4_errorsByPrints 6 = .ok (.getfield 79, 3) := by decide +kernel
theorem dX4_errorsByPrints_9 : decode cX4_errorsByPrints 9 = .ok (.astore_n 3, 1) := by decide +kernel
theorem dX4_errorsByPrints_10 : decode cX4_errorsByPrints 10 = .ok (.aload_n 3, 1) := by decide +kernel
theorem dX4_errorsByPrints_11 : decode cX4_errorsByPrints 11 = .ok (.arraylength, 1) := by decide +kernel
theorem dX4_errorsByPrints_12 : decode cX4_errorsByPrints 12 = .ok (.istore 4, 2) := by decide +kernel
theorem dX4_errorsByPrints_14 : decode cX4_errorsByPrints 14 = .ok (.iconst 0, 1) := by decide +kernel
theorem dX4_errorsByPrints_15 : decode cX4_errorsByPrints 15 = .ok (.istore 5, 2) := by decide +kernel
theorem dX4_errorsByPrints_17 : decode cX4_errorsByPrints 17 = .ok (.iload 5, 2) := by decide +kernel
theorem dX4_errorsByPrints_19 : decode cX4_errorsByPrints 19 = .ok (.iload 4, 2) := by decide +kernel
theorem dX4_errorsByPrints_21 : decode cX4_errorsByPrints 21 = .ok (.if_icmp .ge 96, 3) := by decide +kernel
theorem dX4_errorsByPrints_24 : decode cX4_errorsByPrints 24 = .ok (.aload_n 3, 1) := by decide +kernel
theorem dX4_errorsByPrints_25 : decode cX4_errorsByPrints 25 = .ok (.iload 5, 2) := by decide +kernel
theorem dX4_errorsByPrints_27 : decode cX4_errorsByPrints 27 = .ok (.aaload, 1) := by decide +kernel
theorem dX4_errorsByPrints_28 : decode cX4_errorsByPrints 28 = .ok (.astore 6, 2) := by decide +kernel
theorem dX4_errorsByPrints_30 : decode cX4_errorsByPrints 30 = .ok (.aload 6, 2) := by decide +kernel
theorem dX4_errorsByPrints_32 : decode cX4_errorsByPrints 32 = .ok (.iload_n 1, 1) := by decide +kernel
theorem dX4_errorsByPrints_33 : decode cX4_errorsByPrints 33 = .ok (.invokevirtual 83, 3) := by decide +kernel
theorem dX4_errorsByPrints_36 : decode cX4_errorsByPrints 36 = .ok (.ifCond .eq 15, 3) := by decide +kernel
theorem dX4_errorsByPrints_39 : decode cX4_errorsByPrints 39 = .ok (.aload_n 0, 1) := by decide +kernel
theorem dX4_errorsByPrints_40 : decode cX4_errorsByPrints 40 = .ok (.getfield 9, 3) := by decide +kernel
theorem dX4_errorsByPrints_43 : decode cX4_errorsByPrints 43 = .ok (.aload 6, 2) := by decide +kernel
theorem dX4_errorsByPrints_45 : decode cX4_errorsByPrints 45 = .ok (.invokevirtual 15, 3) := by decide +kernel
theorem dX4_errorsByPrints_48 : decode cX4_errorsByPrints 48 = .ok (.goto 4, 3) := by decide +kernel
theorem dX4_errorsByPrints_51 : decode cX4_errorsByPrints 51 = .ok (.aconst_null, 1) := by decide +kernel
theorem dX4_errorsByPrints_52 : decode cX4_errorsByPrints 52 = .ok (.astore 7, 2) := by decide +kernel
theorem dX4_errorsByPrints_54 : decode cX4_errorsByPrints 54 = .ok (.iload_n 2, 1) := by decide +kernel
theorem dX4_errorsByPrints_55 : decode cX4_errorsByPrints 55 = .ok (.aload_n 0, 1) := by decide +kernel
theorem dX4_errorsByPrints_56 : decode cX4_errorsByPrints 56 = .ok (.aload 7, 2) := by decide +kernel
theorem dX4_errorsByPrints_58 : decode cX4_errorsByPrints 58 = .ok (.aload 6, 2) := by decide +kernel
theorem dX4_errorsByPrints_60 : decode cX4_errorsByPrints 60 = .ok (.invokevirtual 21, 3) := by decide +kernel
theorem dX4_errorsByPrints_63 : decode cX4_errorsByPrints 63 = .ok (.ifCond .eq 7, 3) := by decide +kernel
theorem dX4_errorsByPrints_66 : decode cX4_errorsByPrints 66 = .ok (.iconst 1, 1) := by decide +kernel
theorem dX4_errorsByPrints_67 : decode cX4_errorsByPrints 67 = .ok (.goto 4, 3) := by decide +kernel
theorem dX4_errorsByPrints_70 : decode cX4_errorsByPrints 70 = .ok (.iconst 0, 1) := by decide +kernel
theorem dX4_errorsByPrints_71 : decode cX4_errorsByPrints 71 = .ok (.iadd, 1) := by decide +kernel
theorem dX4_errorsByPrints_72 : decode cX4_errorsByPrints 72 = .ok (.istore_n 2, 1) := by decide +kernel
theorem dX4_errorsByPrints_73 : decode cX4_errorsByPrints 73 = .ok (.iload_n 2, 1) := by decide +kernel
theorem dX4_errorsByPrints_74 : decode cX4_errorsByPrints 74 = .ok (.aload_n 0, 1) := by decide +kernel
theorem dX4_errorsByPrints_75 : decode cX4_errorsByPrints 75 = .ok (.aload 7, 2) := by decide +kernel
theorem dX4_errorsByPrints_77 : decode cX4_errorsByPrints 77 = .ok (.aload 6, 2) := by decide +kernel
theorem dX4_errorsByPrints_79 : decode cX4_errorsByPrints 79 = .ok (.invokevirtual 25, 3) := by decide +kernel
theorem dX4_errorsByPrints_82 : decode cX4_errorsByPrints 82 = .ok (.ifCond .eq 7, 3) := by decide +kernel
theorem dX4_errorsByPrints_85 : decode cX4_errorsByPrints 85 = .ok (.iconst 1, 1) := by decide +kernel
theorem dX4_errorsByPrints_86 : decode cX4_errorsByPrints 86 = .ok (.goto 4, 3) := by decide +kernel
theorem dX4_errorsByPrints_89 : decode cX4_errorsByPrints 89 = .ok (.iconst 0, 1) := by decide +kernel
theorem dX4_errorsByPrints_90 : decode cX4_errorsByPrints 90 = .ok (.iadd, 1) := by decide +kernel
theorem dX4_errorsByPrints_91 : decode cX4_errorsByPrints 91 = .ok (.istore_n 2, 1) := by decide +kernel
theorem dX4_errorsByPrints_92 : decode cX4_errorsByPrints 92 = .ok (.iload_n 2, 1) := by decide +kernel
theorem dX4_errorsByPrints_93 : decode cX4_errorsByPrints 93 = .ok (.aload_n 0, 1) := by decide +kernel
theorem dX4_errorsByPrints_94 : decode cX4_errorsByPrints 94 = .ok (.aload 7, 2) := by decide +kernel
theorem dX4_errorsByPrints_96 : decode cX4_errorsByPrints 96 = .ok (.aload 6, 2) := by decide +kernel
theorem dX4_errorsByPrints_98 : decode cX4_errorsByPrints 98 = .ok (.invokevirtual 28, 3) := by decide +kernel
theorem dX4_errorsByPrints_101 : decode cX4_errorsByPrints 101 = .ok (.ifCond .eq 7, 3) := by decide +kernel
theorem dX4_errorsByPrints_104 : decode cX4_errorsByPrints 104 = .ok (.iconst 1, 1) := by decide +kernel
theorem dX4_errorsByPrints_105 : decode cX4_errorsByPrints 105 = .ok (.goto 4, 3) := by decide +kernel
theorem dX4_errorsByPrints_108 : decode cX4_errorsByPrints 108 = .ok (.iconst 0, 1) := by decide +kernel
theorem dX4_errorsByPrints_109 : decode cX4_errorsByPrints 109 = .ok (.iadd, 1) := by decide +kernel
theorem dX4_errorsByPrints_110 : decode cX4_errorsByPrints 110 = .ok (.istore_n 2, 1) := by decide +kernel
theorem dX4_errorsByPrints_111 : decode cX4_errorsByPrints 111 = .ok (.iinc 5 1, 3) := by decide +kernel
theorem dX4_errorsByPrints_114 : decode cX4_errorsByPrints 114 = .ok (.goto (-97), 3) := by decide +kernel
theorem dX4_errorsByPrints_117 : decode cX4_errorsByPrints 117 = .ok (.iload_n 2, 1) := by decide +kernel
theorem dX4_errorsByPrints_118 : decode cX4_errorsByPrints 118 = .ok (.ireturn, 1) := by decide +kernel
set_option maxRecDepth 20000 in
theorem ggX4_errorsByKinds_X3_isOn : GoodIn wsX4_errorsByKinds wsX3_isOn := goodIn_r _ [7, 8, 9, 64, 65, 66, 67, 68, 69, 70, 71, 72, 73] (by decide +kernel) (by decide +kernel)
set_option maxRecDepth 20000 in
theorem gX4_errorsByKinds_X3_isOn : GoodIn wsX4_errorsByKinds (wsV RX4 83 RX3 yX3_isOn wsX3_isOn) := goodIn_app (goodIn_of _ (by decide +kernel)) ggX4_errorsByKinds_X3_isOn
set_option maxRecDepth 20000 in
theorem ggX4_errorsByKinds_X0_before : GoodIn wsX4_errorsByKinds wsX0_before := goodIn_r _ [14, 15, 16, 17, 18, 4, 5, 6, 7, 8, 9, 57, 58, 59, 60, 61, 62, 63, 64, 65, 66, 67, 68, 69, 70, 71, 72, 73] (by decide +kernel) (by decide +kernel)
set_option maxRecDepth 20000 in
theorem gX4_errorsByKinds_X0_before : GoodIn wsX4_errorsByKinds (wsV RX4 15 RX0 yX0_before wsX0_before) := goodIn_app (goodIn_of _ (by decide +kernel)) ggX4_errorsByKinds_X0_before
set_option maxRecDepth 20000 in
theorem ggX4_errorsByKinds_X4_isTooLong : GoodIn wsX4_errorsByKinds wsX4_isTooLong := goodIn_r _ [23, 1, 24, 25, 26, 27, 28, 29, 30, 13, 31, 32, 33, 34, 35, 36, 37, 6, 38, 39, 40, 41, 42, 43, 44, 56, 64, 65, 66, 67, 68, 69, 70, 71, 72, 73, 74, 75, 76, 57, 58, 59, 60, 61, 62, 63] (by decide +kernel) (by decide +kernel)
set_option maxRecDepth 20000 in
theorem gX4_errorsByKinds_X4_isTooLong : GoodIn wsX4_errorsByKinds (wsV RX4 21 RX4 yX4_isTooLong wsX4_isTooLong) := goodIn_app (goodIn_of _ (by decide +kernel)) ggX4_errorsByKinds_X4_isTooLong
set_option maxRecDepth 20000 in
theorem ggX4_errorsByKinds_X4_isSameFoot : GoodIn wsX4_errorsByKinds wsX4_isSameFoot := goodIn_r _ [48, 49, 64, 65, 66, 67, 68, 69, 70, 71, 72, 73] (by decide +kernel) (by decide +kernel)
set_option maxRecDepth 20000 in
theorem gX4_errorsByKinds_X4_isSameFoot : GoodIn wsX4_errorsByKinds (wsV RX4 25 RX4 yX4_isSameFoot wsX4_isSameFoot) := goodIn_app (goodIn_of _ (by decide +kernel)) ggX4_errorsByKinds_X4_isSameFoot
set_option maxRecDepth 20000 in
theorem ggX4_errorsByKinds_X4_isUneven : GoodIn wsX4_errorsByKinds wsX4_isUneven := goodIn_r _ [53, 54, 55, 41, 42, 43, 64, 65, 66, 67, 68, 69, 70, 71, 72, 73] (by decide +kernel) (by decide +kernel)
set_option maxRecDepth 20000 in
theorem gX4_errorsByKinds_X4_isUneven : GoodIn wsX4_errorsByKinds (wsV RX4 28 RX4 yX4_isUneven wsX4_isUneven) := goodIn_app (goodIn_of _ (by decide +kernel)) ggX4_errorsByKinds_X4_isUneven
theorem dX4_errorsByKinds_0 : decode cX4_errorsByKinds 0 = .ok (.iconst 0, 1) := by decide +kernel
theorem dX4_errorsByKinds_1 : decode cX4_errorsByKinds 1 = .ok (.istore_n 2, 1) := by decide +kernel
theorem dX4_errorsByKinds_2 : decode cX4_errorsByKinds 2 = .ok (.aload_n 0, 1) := by decide +kernel
theorem dX4_errorsByKinds_3 : decode cX4_errorsByKinds 3 = .ok (.getfield 9, 3) := by decide +kernel
theorem dX4_errorsByKinds_6 : decode cX4_errorsByKinds 6 = .ok (.getfield 79, 3) := by decide +kernel
theorem dX4_errorsByKinds_9 : decode cX4_errorsByKinds 9 = .ok (.astore_n 3, 1) := by decide +kernel
theorem dX4_errorsByKinds_10 : decode cX4_errorsByKinds 10 = .ok (.aload_n 3, 1) := by decide +kernel
theorem dX4_errorsByKinds_11 : decode cX4_errorsByKinds 11 = .ok (.arraylength, 1) := by decide +kernel
theorem dX4_errorsByKinds_12 : decode cX4_errorsByKinds 12 = .ok (.istore 4, 2) := by decide +kernel
theorem dX4_errorsByKinds_14 : decode cX4_errorsByKinds 14 = .ok (.iconst 0, 1) := by decide +kernel
theorem dX4_errorsByKinds_15 : decode cX4_errorsByKinds 15 = .ok (.istore 5, 2) := by decide +kernel
theorem dX4_errorsByKinds_17 : decode cX4_errorsByKinds 17 = .ok (.iload 5, 2) := by decide +kernel
theorem dX4_errorsByKinds_19 : decode cX4_errorsByKinds 19 = .ok (.iload 4, 2) := by decide +kernel
theorem dX4_errorsByKinds_21 : decode cX4_errorsByKinds 21 = .ok (.if_icmp .ge 50, 3) := by decide +kernel
theorem dX4_errorsByKinds_24 : decode cX4_errorsByKinds 24 = .ok (.aload_n 3, 1) := by decide +kernel
theorem dX4_errorsByKinds_25 : decode cX4_errorsByKinds 25 = .ok (.iload 5, 2) := by decide +kernel
theorem dX4_errorsByKinds_27 : decode cX4_errorsByKinds 27 = .ok (.aaload, 1) := by decide +kernel
theorem dX4_errorsByKinds_28 : decode cX4_errorsByKinds 28 = .ok (.astore 6, 2) := by decide +kernel
theorem dX4_errorsByKinds_30 : decode cX4_errorsByKinds 30 = .ok (.iload_n 2, 1) := by decide +kernel
theorem dX4_errorsByKinds_31 : decode cX4_errorsByKinds 31 = .ok (.aload 6, 2) := by decide +kernel
theorem dX4_errorsByKinds_33 : decode cX4_errorsByKinds 33 = .ok (.iload_n 1, 1) := by decide +kernel
theorem dX4_errorsByKinds_34 : decode cX4_errorsByKinds 34 = .ok (.invokevirtual 83, 3) := by decide +kernel
theorem dX4_errorsByKinds_37 : decode cX4_errorsByKinds 37 = .ok (.ifCond .eq 25, 3) := by decide +kernel
theorem dX4_errorsByKinds_40 : decode cX4_errorsByKinds 40 = .ok (.aload_n 0, 1) := by decide +kernel
theorem dX4_errorsByKinds_41 : decode cX4_errorsByKinds 41 = .ok (.aload_n 0, 1) := by decide +kernel
theorem dX4_errorsByKinds_42 : decode cX4_errorsByKinds 42 = .ok (.getfield 9, 3) := by decide +kernel
theorem dX4_errorsByKinds_45 : decode cX4_errorsByKinds 45 = .ok (.aload 6, 2) := by decide +kernel
theorem dX4_errorsByKinds_47 : decode cX4_errorsByKinds 47 = .ok (.invokevirtual 15, 3) := by decide +kernel
theorem dX4_errorsByKinds_50 : decode cX4_errorsByKinds 50 = .ok (.aload 6, 2) := by decide +kernel
theorem dX4_errorsByKinds_52 : decode cX4_errorsByKinds 52 = .ok (.invokevirtual 21, 3) := by decide +kernel
theorem dX4_errorsByKinds_55 : decode cX4_errorsByKinds 55 = .ok (.ifCond .eq 7, 3) := by decide +kernel
theorem dX4_errorsByKinds_58 : decode cX4_errorsByKinds 58 = .ok (.iconst 1, 1) := by decide +kernel
theorem dX4_errorsByKinds_59 : decode cX4_errorsByKinds 59 = .ok (.goto 4, 3) := by decide +kernel
theorem dX4_errorsByKinds_62 : decode cX4_errorsByKinds 62 = .ok (.iconst 0, 1) := by decide +kernel
theorem dX4_errorsByKinds_63 : decode cX4_errorsByKinds 63 = .ok (.iadd, 1) := by decide +kernel
theorem dX4_errorsByKinds_64 : decode cX4_errorsByKinds 64 = .ok (.istore_n 2, 1) := by decide +kernel
theorem dX4_errorsByKinds_65 : decode cX4_errorsByKinds 65 = .ok (.iinc 5 1, 3) := by decide +kernel
theorem dX4_errorsByKinds_68 : decode cX4_errorsByKinds 68 = .ok (.goto (-51), 3) := by decide +kernel
theorem dX4_errorsByKinds_71 : decode cX4_errorsByKinds 71 = .ok (.iconst 0, 1) := by decide +kernel
theorem dX4_errorsByKinds_72 : decode cX4_errorsByKinds 72 = .ok (.istore_n 3, 1) := by decide +kernel
theorem dX4_errorsByKinds_73 : decode cX4_errorsByKinds 73 = .ok (.aload_n 0, 1) := by decide +kernel
theorem dX4_errorsByKinds_74 : decode cX4_errorsByKinds 74 = .ok (.getfield 9, 3) := by decide +kernel
theorem dX4_errorsByKinds_77 : decode cX4_errorsByKinds 77 = .ok (.getfield 79, 3) := by decide +kernel
theorem dX4_errorsByKinds_80 : decode cX4_errorsByKinds 80 = .ok (.astore 4, 2) := by decide +kernel
theorem dX4_errorsByKinds_82 : decode cX4_errorsByKinds 82 = .ok (.aload 4, 2) := by decide +kernel
theorem dX4_errorsByKinds_84 : decode cX4_errorsByKinds 84 = .ok (.arraylength, 1) := by decide +kernel
theorem dX4_errorsByKinds_85 : decode cX4_errorsByKinds 85 = .ok (.istore 5, 2) := by decide +kernel
theorem dX4_errorsByKinds_87 : decode cX4_errorsByKinds 87 = .ok (.iconst 0, 1) := by decide +kernel
theorem dX4_errorsByKinds_88 : decode cX4_errorsByKinds 88 = .ok (.istore 6, 2) := by decide +kernel
theorem dX4_errorsByKinds_90 : decode cX4_errorsByKinds 90 = .ok (.iload 6, 2) := by decide +kernel
theorem dX4_errorsByKinds_92 : decode cX4_errorsByKinds 92 = .ok (.iload 5, 2) := by decide +kernel
theorem dX4_errorsByKinds_94 : decode cX4_errorsByKinds 94 = .ok (.if_icmp .ge 51, 3) := by decide +kernel
theorem dX4_errorsByKinds_97 : decode cX4_errorsByKinds 97 = .ok (.aload 4, 2) := by decide +kernel
theorem dX4_errorsByKinds_99 : decode cX4_errorsByKinds 99 = .ok (.iload 6, 2) := by decide +kernel
theorem dX4_errorsByKinds_101 : decode cX4_errorsByKinds 101 = .ok (.aaload, 1) := by decide +kernel
theorem dX4_errorsByKinds_102 : decode cX4_errorsByKinds 102 = .ok (.astore 7, 2) := by decide +kernel
theorem dX4_errorsByKinds_104 : decode cX4_errorsByKinds 104 = .ok (.iload_n 3, 1) := by decide +kernel
theorem dX4_errorsByKinds_105 : decode cX4_errorsByKinds 105 = .ok (.aload 7, 2) := by decide +kernel
theorem dX4_errorsByKinds_107 : decode cX4_errorsByKinds 107 = .ok (.iload_n 1, 1) := by decide +kernel
theorem dX4_errorsByKinds_108 : decode cX4_errorsByKinds 108 = .ok (.invokevirtual 83, 3) := by decide +kernel
theorem dX4_errorsByKinds_111 : decode cX4_errorsByKinds 111 = .ok (.ifCond .eq 25, 3) := by decide +kernel
theorem dX4_errorsByKinds_114 : decode cX4_errorsByKinds 114 = .ok (.aload_n 0, 1) := by decide +kernel
theorem dX4_errorsByKinds_115 : decode cX4_errorsByKinds 115 = .ok (.aload_n 0, 1) := by decide +kernel
theorem dX4_errorsByKinds_116 : decode cX4_errorsByKinds 116 = .ok (.getfield 9, 3) := by decide +kernel
theorem dX4_errorsByKinds_119 : decode cX4_errorsByKinds 119 = .ok (.aload 7, 2) := by decide +kernel
theorem dX4_errorsByKinds_121 : decode cX4_errorsByKinds 121 = .ok (.invokevirtual 15, 3) := by decide +kernel
theorem dX4_errorsByKinds_124 : decode cX4_errorsByKinds 124 = .ok (.aload 7, 2) := by decide +kernel
theorem dX4_errorsByKinds_126 : decode cX4_errorsByKinds 126 = .ok (.invokevirtual 25, 3) := by decide +kernel
theorem dX4_errorsByKinds_129 : decode cX4_errorsByKinds 129 = .ok (.ifCond .eq 7, 3) := by decide +kernel
theorem dX4_errorsByKinds_132 : decode cX4_errorsByKinds 132 = .ok (.iconst 1, 1) := by decide +kernel
theorem dX4_errorsByKinds_133 : decode cX4_errorsByKinds 133 = .ok (.goto 4, 3) := by decide +kernel
theorem dX4_errorsByKinds_136 : decode cX4_errorsByKinds 136 = .ok (.iconst 0, 1) := by decide +kernel
theorem dX4_errorsByKinds_137 : decode cX4_errorsByKinds 137 = .ok (.iadd, 1) := by decide +kernel
theorem dX4_errorsByKinds_138 : decode cX4_errorsByKinds 138 = .ok (.istore_n 3, 1) := by decide +kernel
theorem dX4_errorsByKinds_139 : decode cX4_errorsByKinds 139 = .ok (.iinc 6 1, 3) := by decide +kernel
theorem dX4_errorsByKinds_142 : decode cX4_errorsByKinds 142 = .ok (.goto (-52), 3) := by decide +kernel
theorem dX4_errorsByKinds_145 : decode cX4_errorsByKinds 145 = .ok (.iconst 0, 1) := by decide +kernel
theorem dX4_errorsByKinds_146 : decode cX4_errorsByKinds 146 = .ok (.istore 4, 2) := by decide +kernel
theorem dX4_errorsByKinds_148 : decode cX4_errorsByKinds 148 = .ok (.aload_n 0, 1) := by decide +kernel
theorem dX4_errorsByKinds_149 : decode cX4_errorsByKinds 149 = .ok (.getfield 9, 3) := by decide +kernel
theorem dX4_errorsByKinds_152 : decode cX4_errorsByKinds 152 = .ok (.getfield 79, 3) := by decide +kernel
theorem dX4_errorsByKinds_155 : decode cX4_errorsByKinds 155 = .ok (.astore 5, 2) := by decide +kernel
theorem dX4_errorsByKinds_157 : decode cX4_errorsByKinds 157 = .ok (.aload 5, 2) := by decide +kernel
theorem dX4_errorsByKinds_159 : decode cX4_errorsByKinds 159 = .ok (.arraylength, 1) := by decide +kernel
theorem dX4_errorsByKinds_160 : decode cX4_errorsByKinds 160 = .ok (.istore 6, 2) := by decide +kernel
theorem dX4_errorsByKinds_162 : decode cX4_errorsByKinds 162 = .ok (.iconst 0, 1) := by decide +kernel
theorem dX4_errorsByKinds_163 : decode cX4_errorsByKinds 163 = .ok (.istore 7, 2) := by decide +kernel
theorem dX4_errorsByKinds_165 : decode cX4_errorsByKinds 165 = .ok (.iload 7, 2) := by decide +kernel
theorem dX4_errorsByKinds_167 : decode cX4_errorsByKinds 167 = .ok (.iload 6, 2) := by decide +kernel
theorem dX4_errorsByKinds_169 : decode cX4_errorsByKinds 169 = .ok (.if_icmp .ge 53, 3) := by decide +kernel
theorem dX4_errorsByKinds_172 : decode cX4_errorsByKinds 172 = .ok (.aload 5, 2) := by decide +kernel
theorem dX4_errorsByKinds_174 : decode cX4_errorsByKinds 174 = .ok (.iload 7, 2) := by decide +kernel
theorem dX4_errorsByKinds_176 : decode cX4_errorsByKinds 176 = .ok (.aaload, 1) := by decide +kernel
theorem dX4_errorsByKinds_177 : decode cX4_errorsByKinds 177 = .ok (.astore 8, 2) := by decide +kernel
theorem dX4_errorsByKinds_179 : decode cX4_errorsByKinds 179 = .ok (.iload 4, 2) := by decide +kernel
theorem dX4_errorsByKinds_181 : decode cX4_errorsByKinds 181 = .ok (.aload 8, 2) := by decide +kernel
theorem dX4_errorsByKinds_183 : decode cX4_errorsByKinds 183 = .ok (.iload_n 1, 1) := by decide +kernel
theorem dX4_errorsByKinds_184 : decode cX4_errorsByKinds 184 = .ok (.invokevirtual 83, 3) := by decide +kernel
theorem dX4_errorsByKinds_187 : decode cX4_errorsByKinds 187 = .ok (.ifCond .eq 25, 3) := by decide +kernel
theorem dX4_errorsByKinds_190 : decode cX4_errorsByKinds 190 = .ok (.aload_n 0, 1) := by decide +kernel
theorem dX4_errorsByKinds_191 : decode cX4_errorsByKinds 191 = .ok (.aload_n 0, 1) := by decide +kernel
theorem dX4_errorsByKinds_192 : decode cX4_errorsByKinds 192 = .ok (.getfield 9, 3) := by decide +kernel
theorem dX4_errorsByKinds_195 : decode cX4_errorsByKinds 195 = .ok (.aload 8, 2) := by decide +kernel
theorem dX4_errorsByKinds_197 : decode cX4_errorsByKinds 197 = .ok (.invokevirtual 15, 3) := by decide +kernel
theorem dX4_errorsByKinds_200 : decode cX4_errorsByKinds 200 = .ok (.aload 8, 2) := by decide +kernel
theorem dX4_errorsByKinds_202 : decode cX4_errorsByKinds 202 = .ok (.invokevirtual 28, 3) := by decide +kernel
theorem dX4_errorsByKinds_205 : decode cX4_errorsByKinds 205 = .ok (.ifCond .eq 7, 3) := by decide +kernel
theorem dX4_errorsByKinds_208 : decode cX4_errorsByKinds 208 = .ok (.iconst 1, 1) := by decide +kernel
theorem dX4_errorsByKinds_209 : decode cX4_errorsByKinds 209 = .ok (.goto 4, 3) := by decide +kernel
theorem dX4_errorsByKinds_212 : decode cX4_errorsByKinds 212 = .ok (.iconst 0, 1) := by decide +kernel
theorem dX4_errorsByKinds_213 : decode cX4_errorsByKinds 213 = .ok (.iadd, 1) := by decide +kernel
theorem dX4_errorsByKinds_214 : decode cX4_errorsByKinds 214 = .ok (.istore 4, 2) := by decide +kernel
theorem dX4_errorsByKinds_216 : decode cX4_errorsByKinds 216 = .ok (.iinc 7 1, 3) := by decide +kernel
theorem dX4_errorsByKinds_219 : decode cX4_errorsByKinds 219 = .ok (.goto (-54), 3) := by decide +kernel
theorem dX4_errorsByKinds_222 : decode cX4_errorsByKinds 222 = .ok (.iload_n 2, 1) := by decide +kernel
theorem dX4_errorsByKinds_223 : decode cX4_errorsByKinds 223 = .ok (.iload_n 3, 1) := by decide +kernel
theorem dX4_errorsByKinds_224 : decode cX4_errorsByKinds 224 = .ok (.iadd, 1) := by decide +kernel
theorem dX4_errorsByKinds_225 : decode cX4_errorsByKinds 225 = .ok (.iload 4, 2) := by decide +kernel
theorem dX4_errorsByKinds_227 : decode cX4_errorsByKinds 227 = .ok (.iadd, 1) := by decide +kernel
theorem dX4_errorsByKinds_228 : decode cX4_errorsByKinds 228 = .ok (.ireturn, 1) := by decide +kernel
set_option maxRecDepth 20000 in
theorem ggX4_lengthByPrints_X3_isOn : GoodIn wsX4_lengthByPrints wsX3_isOn := goodIn_r _ [10, 11, 12, 43, 44, 45, 46, 47, 48, 49, 50, 51, 52] (by decide +kernel) (by decide +kernel)
set_option maxRecDepth 20000 in
theorem gX4_lengthByPrints_X3_isOn : GoodIn wsX4_lengthByPrints (wsV RX4 83 RX3 yX3_isOn wsX3_isOn) := goodIn_app (goodIn_of _ (by decide +kernel)) ggX4_lengthByPrints_X3_isOn
set_option maxRecDepth 20000 in
theorem ggX4_lengthByPrints_X0_before : GoodIn wsX4_lengthByPrints wsX0_before := goodIn_r _ [17, 18, 19, 20, 21, 7, 8, 9, 10, 11, 12, 33, 34, 35, 36, 37, 38, 39, 43, 44, 45, 46, 47, 48, 49, 50, 51, 52] (by decide +kernel) (by decide +kernel)
set_option maxRecDepth 20000 in
theorem gX4_lengthByPrints_X0_before : GoodIn wsX4_lengthByPrints (wsV RX4 15 RX0 yX0_before wsX0_before) := goodIn_app (goodIn_of _ (by decide +kernel)) ggX4_lengthByPrints_X0_before
set_option maxRecDepth 20000 in
theorem ggX4_lengthByPrints_X3_distanceTo : GoodIn wsX4_lengthByPrints wsX3_distanceTo := goodIn_r _ [25, 26, 27, 28, 29, 30, 31, 43, 44, 45, 46, 47, 48, 49, 50, 51, 52] (by decide +kernel) (by decide +kernel)
set_option maxRecDepth 20000 in
theorem gX4_lengthByPrints_X3_distanceTo : GoodIn wsX4_lengthByPrints (wsV RX4 47 RX3 yX3_distanceTo wsX3_distanceTo) := goodIn_app (goodIn_of _ (by decide +kernel)) ggX4_lengthByPrints_X3_distanceTo
theorem dX4_lengthByPrints_0 : decode cX4_lengthByPrints 0 = .ok (.iconst 0, 1) := by decide +kernel
theorem dX4_lengthByPrints_1 : decode cX4_lengthByPrints 1 = .ok (.istore_n 2, 1) := by decide +kernel
theorem dX4_lengthByPrints_2 : decode cX4_lengthByPrints 2 = .ok (.aload_n 0, 1) := by decide +kernel
theorem dX4_lengthByPrints_3 : decode cX4_lengthByPrints 3 = .ok (.getfield 9, 3) := by decide +kernel
theorem dX4_lengthByPrints_6 : decode cX4_lengthByPrints 6 = .ok (.getfield 79, 3) := by decide +kernel
theorem dX4_lengthByPrints_9 : decode cX4_lengthByPrints 9 = .ok (.astore_n 3, 1) := by decide +kernel
theorem dX4_lengthByPrints_10 : decode cX4_lengthByPrints 10 = .ok (.aload_n 3, 1) := by decide +kernel
theorem dX4_lengthByPrints_11 : decode cX4_lengthByPrints 11 = .ok (.arraylength, 1) := by decide +kernel
theorem dX4_lengthByPrints_12 : decode cX4_lengthByPrints 12 = .ok (.istore 4, 2) := by decide +kernel
theorem dX4_lengthByPrints_14 : decode cX4_lengthByPrints 14 = .ok (.iconst 0, 1) := by decide +kernel
theorem dX4_lengthByPrints_15 : decode cX4_lengthByPrints 15 = .ok (.istore 5, 2) := by decide +kernel
theorem dX4_lengthByPrints_17 : decode cX4_lengthByPrints 17 = .ok (.iload 5, 2) := by decide +kernel
theorem dX4_lengthByPrints_19 : decode cX4_lengthByPrints 19 = .ok (.iload 4, 2) := by decide +kernel
theorem dX4_lengthByPrints_21 : decode cX4_lengthByPrints 21 = .ok (.if_icmp .ge 69, 3) := by decide +kernel
theorem dX4_lengthByPrints_24 : decode cX4_lengthByPrints 24 = .ok (.aload_n 3, 1) := by decide +kernel
theorem dX4_lengthByPrints_25 : decode cX4_lengthByPrints 25 = .ok (.iload 5, 2) := by decide +kernel
theorem dX4_lengthByPrints_27 : decode cX4_lengthByPrints 27 = .ok (.aaload, 1) := by decide +kernel
theorem dX4_lengthByPrints_28 : decode cX4_lengthByPrints 28 = .ok (.astore 6, 2) := by decide +kernel
theorem dX4_lengthByPrints_30 : decode cX4_lengthByPrints 30 = .ok (.aload 6, 2) := by decide +kernel
theorem dX4_lengthByPrints_32 : decode cX4_lengthByPrints 32 = .ok (.aload_n 1, 1) := by decide +kernel
theorem dX4_lengthByPrints_33 : decode cX4_lengthByPrints 33 = .ok (.getfield 87, 3) := by decide +kernel
theorem dX4_lengthByPrints_36 : decode cX4_lengthByPrints 36 = .ok (.invokevirtual 83, 3) := by decide +kernel
theorem dX4_lengthByPrints_39 : decode cX4_lengthByPrints 39 = .ok (.ifCond .eq 15, 3) := by decide +kernel
theorem dX4_lengthByPrints_42 : decode cX4_lengthByPrints 42 = .ok (.aload_n 0, 1) := by decide +kernel
theorem dX4_lengthByPrints_43 : decode cX4_lengthByPrints 43 = .ok (.getfield 9, 3) := by decide +kernel
theorem dX4_lengthByPrints_46 : decode cX4_lengthByPrints 46 = .ok (.aload 6, 2) := by decide +kernel
theorem dX4_lengthByPrints_48 : decode cX4_lengthByPrints 48 = .ok (.invokevirtual 15, 3) := by decide +kernel
theorem dX4_lengthByPrints_51 : decode cX4_lengthByPrints 51 = .ok (.goto 4, 3) := by decide +kernel
theorem dX4_lengthByPrints_54 : decode cX4_lengthByPrints 54 = .ok (.aconst_null, 1) := by decide +kernel
theorem dX4_lengthByPrints_55 : decode cX4_lengthByPrints 55 = .ok (.astore 7, 2) := by decide +kernel
theorem dX4_lengthByPrints_57 : decode cX4_lengthByPrints 57 = .ok (.iload_n 2, 1) := by decide +kernel
theorem dX4_lengthByPrints_58 : decode cX4_lengthByPrints 58 = .ok (.aload 7, 2) := by decide +kernel
theorem dX4_lengthByPrints_60 : decode cX4_lengthByPrints 60 = .ok (.ifnonnull 7, 3) := by decide +kernel
theorem dX4_lengthByPrints_63 : decode cX4_lengthByPrints 63 = .ok (.iconst 0, 1) := by decide +kernel
theorem dX4_lengthByPrints_64 : decode cX4_lengthByPrints 64 = .ok (.goto 18, 3) := by decide +kernel
theorem dX4_lengthByPrints_67 : decode cX4_lengthByPrints 67 = .ok (.aload 6, 2) := by decide +kernel
theorem dX4_lengthByPrints_69 : decode cX4_lengthByPrints 69 = .ok (.aload 7, 2) := by decide +kernel
theorem dX4_lengthByPrints_71 : decode cX4_lengthByPrints 71 = .ok (.getfield 41, 3) := by decide +kernel
theorem dX4_lengthByPrints_74 : decode cX4_lengthByPrints 74 = .ok (.aload 7, 2) := by decide +kernel
theorem dX4_lengthByPrints_76 : decode cX4_lengthByPrints 76 = .ok (.getfield 44, 3) := by decide +kernel
theorem dX4_lengthByPrints_79 : decode cX4_lengthByPrints 79 = .ok (.invokevirtual 47, 3) := by decide +kernel
theorem dX4_lengthByPrints_82 : decode cX4_lengthByPrints 82 = .ok (.iadd, 1) := by decide +kernel
theorem dX4_lengthByPrints_83 : decode cX4_lengthByPrints 83 = .ok (.istore_n 2, 1) := by decide +kernel
theorem dX4_lengthByPrints_84 : decode cX4_lengthByPrints 84 = .ok (.iinc 5 1, 3) := by decide +kernel
theorem dX4_lengthByPrints_87 : decode cX4_lengthByPrints 87 = .ok (.goto (-70), 3) := by decide +kernel
theorem dX4_lengthByPrints_90 : decode cX4_lengthByPrints 90 = .ok (.iload_n 2, 1) := by decide +kernel
theorem dX4_lengthByPrints_91 : decode cX4_lengthByPrints 91 = .ok (.ireturn, 1) := by decide +kernel
set_option maxRecDepth 20000 in
theorem ggX4_lengthByDirections_X3_isOn : GoodIn wsX4_lengthByDirections wsX3_isOn := goodIn_r _ [14, 15, 16, 37, 38, 39, 40, 41, 42, 43, 44, 45, 46] (by decide +kernel) (by decide +kernel)
set_option maxRecDepth 20000 in
theorem gX4_lengthByDirections_X3_isOn : GoodIn wsX4_lengthByDirections (wsV RX4 83 RX3 yX3_isOn wsX3_isOn) := goodIn_app (goodIn_of _ (by decide +kernel)) ggX4_lengthByDirections_X3_isOn
set_option maxRecDepth 20000 in
theorem ggX4_lengthByDirections_X0_before : GoodIn wsX4_lengthByDirections wsX0_before := goodIn_r _ [21, 22, 23, 24, 25, 11, 12, 13, 14, 15, 16, 27, 28, 29, 30, 31, 32, 33, 37, 38, 39, 40, 41, 42, 43, 44, 45, 46] (by decide +kernel) (by decide +kernel)
set_option maxRecDepth 20000 in
theorem gX4_lengthByDirections_X0_before : GoodIn wsX4_lengthByDirections (wsV RX4 15 RX0 yX0_before wsX0_before) := goodIn_app (goodIn_of _ (by decide +kernel)) ggX4_lengthByDirections_X0_before
theorem dX4_lengthByDirections_0 : decode cX4_lengthByDirections 0 = .ok (.iconst 0, 1) := by decide +kernel
theorem dX4_lengthByDirections_1 : decode cX4_lengthByDirections 1 = .ok (.istore_n 2, 1) := by decide +kernel
theorem dX4_lengthByDirections_2 : decode cX4_lengthByDirections 2 = .ok (.iconst 0, 1) := by decide +kernel
theorem dX4_lengthByDirections_3 : decode cX4_lengthByDirections 3 = .ok (.istore_n 3, 1) := by decide +kernel
theorem dX4_lengthByDirections_4 : decode cX4_lengthByDirections 4 = .ok (.aload_n 0, 1) := by decide +kernel
theorem dX4_lengthByDirections_5 : decode cX4_lengthByDirections 5 = .ok (.getfield 9, 3) := by decide +kernel
theorem dX4_lengthByDirections_8 : decode cX4_lengthByDirections 8 = .ok (.getfield 79, 3) := by decide +kernel
theorem dX4_lengthByDirections_11 : decode cX4_lengthByDirections 11 = .ok (.astore 4, 2) := by decide +kernel
theorem dX4_lengthByDirections_13 : decode cX4_lengthByDirections 13 = .ok (.aload 4, 2) := by decide +kernel
theorem dX4_lengthByDirections_15 : decode cX4_lengthByDirections 15 = .ok (.arraylength, 1) := by decide +kernel
theorem dX4_lengthByDirections_16 : decode cX4_lengthByDirections 16 = .ok (.istore 5, 2) := by decide +kernel
theorem dX4_lengthByDirections_18 : decode cX4_lengthByDirections 18 = .ok (.iconst 0, 1) := by decide +kernel
theorem dX4_lengthByDirections_19 : decode cX4_lengthByDirections 19 = .ok (.istore 6, 2) := by decide +kernel
theorem dX4_lengthByDirections_21 : decode cX4_lengthByDirections 21 = .ok (.iload 6, 2) := by decide +kernel
theorem dX4_lengthByDirections_23 : decode cX4_lengthByDirections 23 = .ok (.iload 5, 2) := by decide +kernel
theorem dX4_lengthByDirections_25 : decode cX4_lengthByDirections 25 = .ok (.if_icmp .ge 82, 3) := by decide +kernel
theorem dX4_lengthByDirections_28 : decode cX4_lengthByDirections 28 = .ok (.aload 4, 2) := by decide +kernel
theorem dX4_lengthByDirections_30 : decode cX4_lengthByDirections 30 = .ok (.iload 6, 2) := by decide +kernel
theorem dX4_lengthByDirections_32 : decode cX4_lengthByDirections 32 = .ok (.aaload, 1) := by decide +kernel
theorem dX4_lengthByDirections_33 : decode cX4_lengthByDirections 33 = .ok (.astore 7, 2) := by decide +kernel
theorem dX4_lengthByDirections_35 : decode cX4_lengthByDirections 35 = .ok (.aload 7, 2) := by decide +kernel
theorem dX4_lengthByDirections_37 : decode cX4_lengthByDirections 37 = .ok (.aload_n 1, 1) := by decide +kernel
theorem dX4_lengthByDirections_38 : decode cX4_lengthByDirections 38 = .ok (.getfield 87, 3) := by decide +kernel
theorem dX4_lengthByDirections_41 : decode cX4_lengthByDirections 41 = .ok (.invokevirtual 83, 3) := by decide +kernel
theorem dX4_lengthByDirections_44 : decode cX4_lengthByDirections 44 = .ok (.ifCond .eq 15, 3) := by decide +kernel
theorem dX4_lengthByDirections_47 : decode cX4_lengthByDirections 47 = .ok (.aload_n 0, 1) := by decide +kernel
theorem dX4_lengthByDirections_48 : decode cX4_lengthByDirections 48 = .ok (.getfield 9, 3) := by decide +kernel
theorem dX4_lengthByDirections_51 : decode cX4_lengthByDirections 51 = .ok (.aload 7, 2) := by decide +kernel
theorem dX4_lengthByDirections_53 : decode cX4_lengthByDirections 53 = .ok (.invokevirtual 15, 3) := by decide +kernel
theorem dX4_lengthByDirections_56 : decode cX4_lengthByDirections 56 = .ok (.goto 4, 3) := by decide +kernel
theorem dX4_lengthByDirections_59 : decode cX4_lengthByDirections 59 = .ok (.aconst_null, 1) := by decide +kernel
theorem dX4_lengthByDirections_60 : decode cX4_lengthByDirections 60 = .ok (.astore 8, 2) := by decide +kernel
theorem dX4_lengthByDirections_62 : decode cX4_lengthByDirections 62 = .ok (.aload 8, 2) := by decide +kernel
theorem dX4_lengthByDirections_64 : decode cX4_lengthByDirections 64 = .ok (.ifnull 37, 3) := by decide +kernel
theorem dX4_lengthByDirections_67 : decode cX4_lengthByDirections 67 = .ok (.iload_n 2, 1) := by decide +kernel
theorem dX4_lengthByDirections_68 : decode cX4_lengthByDirections 68 = .ok (.aload 7, 2) := by decide +kernel
theorem dX4_lengthByDirections_70 : decode cX4_lengthByDirections 70 = .ok (.getfield 41, 3) := by decide +kernel
theorem dX4_lengthByDirections_73 : decode cX4_lengthByDirections 73 = .ok (.aload 8, 2) := by decide +kernel
theorem dX4_lengthByDirections_75 : decode cX4_lengthByDirections 75 = .ok (.getfield 41, 3) := by decide +kernel
theorem dX4_lengthByDirections_78 : decode cX4_lengthByDirections 78 = .ok (.isub, 1) := by decide +kernel
theorem dX4_lengthByDirections_79 : decode cX4_lengthByDirections 79 = .ok (.invokestatic 63, 3) := by decide +kernel
theorem dX4_lengthByDirections_82 : decode cX4_lengthByDirections 82 = .ok (.iadd, 1) := by decide +kernel
theorem dX4_lengthByDirections_83 : decode cX4_lengthByDirections 83 = .ok (.istore_n 2, 1) := by decide +kernel
theorem dX4_lengthByDirections_84 : decode cX4_lengthByDirections 84 = .ok (.iload_n 3, 1) := by decide +kernel
theorem dX4_lengthByDirections_85 : decode cX4_lengthByDirections 85 = .ok (.aload 7, 2) := by decide +kernel
theorem dX4_lengthByDirections_87 : decode cX4_lengthByDirections 87 = .ok (.getfield 44, 3) := by decide +kernel
theorem dX4_lengthByDirections_90 : decode cX4_lengthByDirections 90 = .ok (.aload 8, 2) := by decide +kernel
theorem dX4_lengthByDirections_92 : decode cX4_lengthByDirections 92 = .ok (.getfield 44, 3) := by decide +kernel
theorem dX4_lengthByDirections_95 : decode cX4_lengthByDirections 95 = .ok (.isub, 1) := by decide +kernel
theorem dX4_lengthByDirections_96 : decode cX4_lengthByDirections 96 = .ok (.invokestatic 63, 3) := by decide +kernel
theorem dX4_lengthByDirections_99 : decode cX4_lengthByDirections 99 = .ok (.iadd, 1) := by decide +kernel
theorem dX4_lengthByDirections_100 : decode cX4_lengthByDirections 100 = .ok (.istore_n 3, 1) := by decide +kernel
theorem dX4_lengthByDirections_101 : decode cX4_lengthByDirections 101 = .ok (.iinc 6 1, 3) := by decide +kernel
theorem dX4_lengthByDirections_104 : decode cX4_lengthByDirections 104 = .ok (.goto (-83), 3) := by decide +kernel
theorem dX4_lengthByDirections_107 : decode cX4_lengthByDirections 107 = .ok (.iload_n 2, 1) := by decide +kernel
theorem dX4_lengthByDirections_108 : decode cX4_lengthByDirections 108 = .ok (.iload_n 3, 1) := by decide +kernel
theorem dX4_lengthByDirections_109 : decode cX4_lengthByDirections 109 = .ok (.iadd, 1) := by decide +kernel
theorem dX4_lengthByDirections_110 : decode cX4_lengthByDirections 110 = .ok (.ireturn, 1) := by decide +kernel
set_option maxRecDepth 20000 in
theorem ggX4_errorsWith_X4_errorsByPrints : GoodIn wsX4_errorsWith wsX4_errorsByPrints := goodIn_r _ [8, 9, 10, 11, 12, 13, 14, 15, 16, 17, 18, 19, 20, 21, 22, 23, 24, 25, 26, 27, 28, 29, 7, 30, 3, 1, 2, 31, 32, 33, 34, 35, 36, 37, 38, 39, 40, 41, 42, 43, 44, 45, 46, 47, 48, 49, 50, 51, 52, 53, 54, 55, 56, 57, 58, 59, 70, 71, 72, 73, 74, 75, 76, 77, 60, 61, 62, 63, 64, 65, 66, 67, 68, 69, 78, 79, 80] (by decide +kernel) (by decide +kernel)
set_option maxRecDepth 20000 in
theorem gX4_errorsWith_X4_errorsByPrints : GoodIn wsX4_errorsWith (wsV RX4 90 RX4 yX4_errorsByPrints wsX4_errorsByPrints) := goodIn_app (goodIn_of _ (by decide +kernel)) ggX4_errorsWith_X4_errorsByPrints
theorem dX4_errorsWith_0 : decode cX4_errorsWith 0 = .ok (.aload_n 1, 1) := by decide +kernel
theorem dX4_errorsWith_1 : decode cX4_errorsWith 1 = .ok (.getfield 41, 3) := by decide +kernel
theorem dX4_errorsWith_4 : decode cX4_errorsWith 4 = .ok (.istore 4, 2) := by decide +kernel
theorem dX4_errorsWith_6 : decode cX4_errorsWith 6 = .ok (.aload_n 1, 1) := by decide +kernel
theorem dX4_errorsWith_7 : decode cX4_errorsWith 7 = .ok (.getfield 44, 3) := by decide +kernel
theorem dX4_errorsWith_10 : decode cX4_errorsWith 10 = .ok (.istore 5, 2) := by decide +kernel
theorem dX4_errorsWith_12 : decode cX4_errorsWith 12 = .ok (.aload_n 1, 1) := by decide +kernel
theorem dX4_errorsWith_13 : decode cX4_errorsWith 13 = .ok (.iload_n 2, 1) := by decide +kernel
theorem dX4_errorsWith_14 : decode cX4_errorsWith 14 = .ok (.putfield 41, 3) := by decide +kernel
theorem dX4_errorsWith_17 : decode cX4_errorsWith 17 = .ok (.aload_n 1, 1) := by decide +kernel
theorem dX4_errorsWith_18 : decode cX4_errorsWith 18 = .ok (.iload_n 3, 1) := by decide +kernel
theorem dX4_errorsWith_19 : decode cX4_errorsWith 19 = .ok (.putfield 44, 3) := by decide +kernel
theorem dX4_errorsWith_22 : decode cX4_errorsWith 22 = .ok (.aload_n 0, 1) := by decide +kernel
theorem dX4_errorsWith_23 : decode cX4_errorsWith 23 = .ok (.aload_n 1, 1) := by decide +kernel
theorem dX4_errorsWith_24 : decode cX4_errorsWith 24 = .ok (.getfield 31, 3) := by decide +kernel
theorem dX4_errorsWith_27 : decode cX4_errorsWith 27 = .ok (.invokevirtual 90, 3) := by decide +kernel
theorem dX4_errorsWith_30 : decode cX4_errorsWith 30 = .ok (.istore 6, 2) := by decide +kernel
theorem dX4_errorsWith_32 : decode cX4_errorsWith 32 = .ok (.aload_n 1, 1) := by decide +kernel
theorem dX4_errorsWith_33 : decode cX4_errorsWith 33 = .ok (.iload 4, 2) := by decide +kernel
theorem dX4_errorsWith_35 : decode cX4_errorsWith 35 = .ok (.putfield 41, 3) := by decide +kernel
theorem dX4_errorsWith_38 : decode cX4_errorsWith 38 = .ok (.aload_n 1, 1) := by decide +kernel
theorem dX4_errorsWith_39 : decode cX4_errorsWith 39 = .ok (.iload 5, 2) := by decide +kernel
theorem dX4_errorsWith_41 : decode cX4_errorsWith 41 = .ok (.putfield 44, 3) := by decide +kernel
theorem dX4_errorsWith_44 : decode cX4_errorsWith 44 = .ok (.iload 6, 2) := by decide +kernel
theorem dX4_errorsWith_46 : decode cX4_errorsWith 46 = .ok (.ireturn, 1) := by decide +kernel
set_option maxRecDepth 20000 in
theorem ggX4_bestCellFor_X4_errorsByPrints : GoodIn wsX4_bestCellFor wsX4_errorsByPrints := goodIn_r _ [9, 4, 10, 11, 12, 13, 14, 15, 16, 17, 18, 19, 20, 21, 22, 23, 24, 25, 26, 27, 28, 29, 8, 30, 3, 1, 2, 31, 32, 33, 34, 35, 36, 37, 38, 39, 40, 41, 42, 43, 44, 45, 46, 47, 48, 49, 50, 51, 52, 53, 54, 55, 56, 57, 58, 59, 114, 115, 116, 117, 118, 119, 120, 121, 104, 105, 106, 107, 108, 109, 110, 111, 112, 113, 122, 123, 124] (by decide +kernel) (by decide +kernel)
set_option maxRecDepth 20000 in
theorem gX4_bestCellFor_X4_errorsByPrints : GoodIn wsX4_bestCellFor (wsV RX4 90 RX4 yX4_errorsByPrints wsX4_errorsByPrints) := goodIn_app (goodIn_of _ (by decide +kernel)) ggX4_bestCellFor_X4_errorsByPrints
set_option maxRecDepth 20000 in
theorem ggX4_bestCellFor_X9_isCell : GoodIn wsX4_bestCellFor wsX9_isCell := goodIn_r _ [62, 63, 64, 61, 65] (by decide +kernel) (by decide +kernel)
set_option maxRecDepth 20000 in
theorem gX4_bestCellFor_X9_isCell_n93 : GoodIn wsX4_bestCellFor (wsX9_isCell) := ggX4_bestCellFor_X9_isCell
set_option maxRecDepth 20000 in
theorem ggX4_bestCellFor_X0_objectionToMove : GoodIn wsX4_bestCellFor wsX0_objectionToMove := goodIn_r _ [69, 70, 71, 72, 73, 40, 41, 14, 42, 43, 44, 45, 46, 47, 48, 74, 75, 76, 77, 78, 79, 80, 81, 82, 83, 84, 85, 21, 86, 87, 88, 89, 90, 91, 92, 93, 94, 95, 96, 23, 97, 98, 99, 125, 126, 127, 104, 105, 106, 107, 108, 109, 110, 111, 112, 113, 115, 116, 117, 118, 119, 120, 121] (by decide +kernel) (by decide +kernel)
set_option maxRecDepth 20000 in
theorem gX4_bestCellFor_X0_objectionToMove : GoodIn wsX4_bestCellFor (wsV RX4 97 RX0 yX0_objectionToMove wsX0_objectionToMove) := goodIn_app (goodIn_of _ (by decide +kernel)) ggX4_bestCellFor_X0_objectionToMove
set_option maxRecDepth 20000 in
theorem ggX4_bestCellFor_X4_errorsWith : GoodIn wsX4_bestCellFor wsX4_errorsWith := goodIn_r _ [103, 1, 2, 3, 5, 6, 7, 8, 9, 4, 10, 11, 12, 13, 14, 15, 16, 17, 18, 19, 20, 21, 22, 23, 24, 25, 26, 27, 28, 29, 30, 31, 32, 33, 34, 35, 36, 37, 38, 39, 40, 41, 42, 43, 44, 45, 46, 47, 48, 49, 50, 51, 52, 53, 54, 55, 56, 57, 58, 59, 104, 105, 106, 107, 108, 109, 110, 111, 112, 113, 114, 115, 116, 117, 118, 119, 120, 121, 122, 123, 124] (by decide +kernel) (by decide +kernel)
set_option maxRecDepth 20000 in
theorem gX4_bestCellFor_X4_errorsWith : GoodIn wsX4_bestCellFor (wsV RX4 101 RX4 yX4_errorsWith wsX4_errorsWith) := goodIn_app (goodIn_of _ (by decide +kernel)) ggX4_bestCellFor_X4_errorsWith
set_option maxRecDepth 20000 in
theorem ggX4_bestCellFor_X3_distanceTo : GoodIn wsX4_bestCellFor wsX3_distanceTo := goodIn_r _ [42, 43, 44, 45, 46, 47, 48, 104, 105, 106, 107, 108, 109, 110, 111, 112, 113] (by decide +kernel) (by decide +kernel)
set_option maxRecDepth 20000 in
theorem gX4_bestCellFor_X3_distanceTo : GoodIn wsX4_bestCellFor (wsV RX4 47 RX3 yX3_distanceTo wsX3_distanceTo) := goodIn_app (goodIn_of _ (by decide +kernel)) ggX4_bestCellFor_X3_distanceTo
theorem dX4_bestCellFor_0 : decode cX4_bestCellFor 0 = .ok (.aload_n 1, 1) := by decide +kernel
theorem dX4_bestCellFor_1 : decode cX4_bestCellFor 1 = .ok (.getfield 41, 3) := by decide +kernel
theorem dX4_bestCellFor_4 : decode cX4_bestCellFor 4 = .ok (.bipush 20, 2) := by decide +kernel
theorem dX4_bestCellFor_6 : decode cX4_bestCellFor 6 = .ok (.imul, 1) := by decide +kernel
theorem dX4_bestCellFor_7 : decode cX4_bestCellFor 7 = .ok (.aload_n 1, 1) := by decide +kernel
theorem dX4_bestCellFor_8 : decode cX4_bestCellFor 8 = .ok (.getfield 44, 3) := by decide +kernel
theorem dX4_bestCellFor_11 : decode cX4_bestCellFor 11 = .ok (.iadd, 1) := by decide +kernel
theorem dX4_bestCellFor_12 : decode cX4_bestCellFor 12 = .ok (.istore_n 2, 1) := by decide +kernel
theorem dX4_bestCellFor_13 : decode cX4_bestCellFor 13 = .ok (.aload_n 0, 1) := by decide +kernel
theorem dX4_bestCellFor_14 : decode cX4_bestCellFor 14 = .ok (.aload_n 1, 1) := by decide +kernel
theorem dX4_bestCellFor_15 : decode cX4_bestCellFor 15 = .ok (.getfield 31, 3) := by decide +kernel
theorem dX4_bestCellFor_18 : decode cX4_bestCellFor 18 = .ok (.invokevirtual 90, 3) := by decide +kernel
theorem dX4_bestCellFor_21 : decode cX4_bestCellFor 21 = .ok (.istore_n 3, 1) := by decide +kernel
theorem dX4_bestCellFor_22 : decode cX4_bestCellFor 22 = .ok (.iconst 0, 1) := by decide +kernel
theorem dX4_bestCellFor_23 : decode cX4_bestCellFor 23 = .ok (.istore 4, 2) := by decide +kernel
theorem dX4_bestCellFor_25 : decode cX4_bestCellFor 25 = .ok (.iconst 0, 1) := by decide +kernel
theorem dX4_bestCellFor_26 : decode cX4_bestCellFor 26 = .ok (.istore 5, 2) := by decide +kernel
theorem dX4_bestCellFor_28 : decode cX4_bestCellFor 28 = .ok (.iload 5, 2) := by decide +kernel
theorem dX4_bestCellFor_30 : decode cX4_bestCellFor 30 = .ok (.bipush 25, 2) := by decide +kernel
theorem dX4_bestCellFor_32 : decode cX4_bestCellFor 32 = .ok (.if_icmp .ge 116, 3) := by decide +kernel
theorem dX4_bestCellFor_35 : decode cX4_bestCellFor 35 = .ok (.aload_n 1, 1) := by decide +kernel
theorem dX4_bestCellFor_36 : decode cX4_bestCellFor 36 = .ok (.getfield 41, 3) := by decide +kernel
theorem dX4_bestCellFor_39 : decode cX4_bestCellFor 39 = .ok (.iconst 2, 1) := by decide +kernel
theorem dX4_bestCellFor_40 : decode cX4_bestCellFor 40 = .ok (.isub, 1) := by decide +kernel
theorem dX4_bestCellFor_41 : decode cX4_bestCellFor 41 = .ok (.iload 5, 2) := by decide +kernel
theorem dX4_bestCellFor_43 : decode cX4_bestCellFor 43 = .ok (.iconst 5, 1) := by decide +kernel
theorem dX4_bestCellFor_44 : decode cX4_bestCellFor 44 = .ok (.idiv, 1) := by decide +kernel
theorem dX4_bestCellFor_45 : decode cX4_bestCellFor 45 = .ok (.iadd, 1) := by decide +kernel
theorem dX4_bestCellFor_46 : decode cX4_bestCellFor 46 = .ok (.istore 6, 2) := by decide +kernel
theorem dX4_bestCellFor_48 : decode cX4_bestCellFor 48 = .ok (.aload_n 1, 1) := by decide +kernel
theorem dX4_bestCellFor_49 : decode cX4_bestCellFor 49 = .ok (.getfield 44, 3) := by decide +kernel
theorem dX4_bestCellFor_52 : decode cX4_bestCellFor 52 = .ok (.iconst 2, 1) := by decide +kernel
theorem dX4_bestCellFor_53 : decode cX4_bestCellFor 53 = .ok (.isub, 1) := by decide +kernel
theorem dX4_bestCellFor_54 : decode cX4_bestCellFor 54 = .ok (.iload 5, 2) := by decide +kernel
theorem dX4_bestCellFor_56 : decode cX4_bestCellFor 56 = .ok (.iconst 5, 1) := by decide +kernel
theorem dX4_bestCellFor_57 : decode cX4_bestCellFor 57 = .ok (.irem, 1) := by decide +kernel
theorem dX4_bestCellFor_58 : decode cX4_bestCellFor 58 = .ok (.iadd, 1) := by decide +kernel
theorem dX4_bestCellFor_59 : decode cX4_bestCellFor 59 = .ok (.istore 7, 2) := by decide +kernel
theorem dX4_bestCellFor_61 : decode cX4_bestCellFor 61 = .ok (.iload 6, 2) := by decide +kernel
theorem dX4_bestCellFor_63 : decode cX4_bestCellFor 63 = .ok (.iload 7, 2) := by decide +kernel
theorem dX4_bestCellFor_65 : decode cX4_bestCellFor 65 = .ok (.invokestatic 93, 3) := by decide +kernel
theorem dX4_bestCellFor_68 : decode cX4_bestCellFor 68 = .ok (.ifCond .eq 74, 3) := by decide +kernel
theorem dX4_bestCellFor_71 : decode cX4_bestCellFor 71 = .ok (.aload_n 0, 1) := by decide +kernel
theorem dX4_bestCellFor_72 : decode cX4_bestCellFor 72 = .ok (.getfield 9, 3) := by decide +kernel
theorem dX4_bestCellFor_75 : decode cX4_bestCellFor 75 = .ok (.aload_n 1, 1) := by decide +kernel
theorem dX4_bestCellFor_76 : decode cX4_bestCellFor 76 = .ok (.iload 6, 2) := by decide +kernel
theorem dX4_bestCellFor_78 : decode cX4_bestCellFor 78 = .ok (.iload 7, 2) := by decide +kernel
theorem dX4_bestCellFor_80 : decode cX4_bestCellFor 80 = .ok (.invokevirtual 97, 3) := by decide +kernel
theorem dX4_bestCellFor_83 : decode cX4_bestCellFor 83 = .ok (.ifnonnull 59, 3) := by decide +kernel
theorem dX4_bestCellFor_86 : decode cX4_bestCellFor 86 = .ok (.aload_n 0, 1) := by decide +kernel
theorem dX4_bestCellFor_87 : decode cX4_bestCellFor 87 = .ok (.aload_n 1, 1) := by decide +kernel
theorem dX4_bestCellFor_88 : decode cX4_bestCellFor 88 = .ok (.iload 6, 2) := by decide +kernel
theorem dX4_bestCellFor_90 : decode cX4_bestCellFor 90 = .ok (.iload 7, 2) := by decide +kernel
theorem dX4_bestCellFor_92 : decode cX4_bestCellFor 92 = .ok (.invokevirtual 101, 3) := by decide +kernel
theorem dX4_bestCellFor_95 : decode cX4_bestCellFor 95 = .ok (.istore 8, 2) := by decide +kernel
theorem dX4_bestCellFor_97 : decode cX4_bestCellFor 97 = .ok (.aload_n 1, 1) := by decide +kernel
theorem dX4_bestCellFor_98 : decode cX4_bestCellFor 98 = .ok (.iload 6, 2) := by decide +kernel
theorem dX4_bestCellFor_100 : decode cX4_bestCellFor 100 = .ok (.iload 7, 2) := by decide +kernel
theorem dX4_bestCellFor_102 : decode cX4_bestCellFor 102 = .ok (.invokevirtual 47, 3) := by decide +kernel
theorem dX4_bestCellFor_105 : decode cX4_bestCellFor 105 = .ok (.istore 9, 2) := by decide +kernel
theorem dX4_bestCellFor_107 : decode cX4_bestCellFor 107 = .ok (.iload 8, 2) := by decide +kernel
theorem dX4_bestCellFor_109 : decode cX4_bestCellFor 109 = .ok (.iload_n 3, 1) := by decide +kernel
theorem dX4_bestCellFor_110 : decode cX4_bestCellFor 110 = .ok (.if_icmp .lt 16, 3) := by decide +kernel
theorem dX4_bestCellFor_113 : decode cX4_bestCellFor 113 = .ok (.iload 8, 2) := by decide +kernel
theorem dX4_bestCellFor_115 : decode cX4_bestCellFor 115 = .ok (.iload_n 3, 1) := by decide +kernel
theorem dX4_bestCellFor_116 : decode cX4_bestCellFor 116 = .ok (.if_icmp .ne 26, 3) := by decide +kernel
theorem dX4_bestCellFor_119 : decode cX4_bestCellFor 119 = .ok (.iload 9, 2) := by decide +kernel
theorem dX4_bestCellFor_121 : decode cX4_bestCellFor 121 = .ok (.iload 4, 2) := by decide +kernel
theorem dX4_bestCellFor_123 : decode cX4_bestCellFor 123 = .ok (.if_icmp .ge 19, 3) := by decide +kernel
theorem dX4_bestCellFor_126 : decode cX4_bestCellFor 126 = .ok (.iload 6, 2) := by decide +kernel
theorem dX4_bestCellFor_128 : decode cX4_bestCellFor 128 = .ok (.bipush 20, 2) := by decide +kernel
theorem dX4_bestCellFor_130 : decode cX4_bestCellFor 130 = .ok (.imul, 1) := by decide +kernel
theorem dX4_bestCellFor_131 : decode cX4_bestCellFor 131 = .ok (.iload 7, 2) := by decide +kernel
theorem dX4_bestCellFor_133 : decode cX4_bestCellFor 133 = .ok (.iadd, 1) := by decide +kernel
theorem dX4_bestCellFor_134 : decode cX4_bestCellFor 134 = .ok (.istore_n 2, 1) := by decide +kernel
theorem dX4_bestCellFor_135 : decode cX4_bestCellFor 135 = .ok (.iload 8, 2) := by decide +kernel
theorem dX4_bestCellFor_137 : decode cX4_bestCellFor 137 = .ok (.istore_n 3, 1) := by decide +kernel
theorem dX4_bestCellFor_138 : decode cX4_bestCellFor 138 = .ok (.iload 9, 2) := by decide +kernel
theorem dX4_bestCellFor_140 : decode cX4_bestCellFor 140 = .ok (.istore 4, 2) := by decide +kernel
theorem dX4_bestCellFor_142 : decode cX4_bestCellFor 142 = .ok (.iinc 5 1, 3) := by decide +kernel
theorem dX4_bestCellFor_145 : decode cX4_bestCellFor 145 = .ok (.goto (-117), 3) := by decide +kernel
theorem dX4_bestCellFor_148 : decode cX4_bestCellFor 148 = .ok (.iload_n 2, 1) := by decide +kernel
theorem dX4_bestCellFor_149 : decode cX4_bestCellFor 149 = .ok (.ireturn, 1) := by decide +kernel
set_option maxRecDepth 20000 in
theorem ggX4_countAheadOf_X4_errorsByPrints : GoodIn wsX4_countAheadOf wsX4_errorsByPrints := goodIn_r _ [9, 2, 10, 11, 12, 13, 14, 15, 16, 17, 18, 19, 20, 21, 22, 23, 24, 25, 26, 27, 28, 29, 8, 30, 31, 32, 33, 34, 35, 36, 37, 38, 39, 40, 41, 42, 43, 44, 45, 46, 47, 48, 49, 50, 51, 52, 53, 54, 55, 56, 57, 58, 59, 60, 61, 62, 74, 75, 76, 77, 78, 79, 80, 81, 82, 83, 84, 85, 86, 87, 88, 89, 90, 91, 71, 72, 73] (by decide +kernel) (by decide +kernel)
set_option maxRecDepth 20000 in
theorem gX4_countAheadOf_X4_errorsByPrints : GoodIn wsX4_countAheadOf (wsV RX4 90 RX4 yX4_errorsByPrints wsX4_errorsByPrints) := goodIn_app (goodIn_of _ (by decide +kernel)) ggX4_countAheadOf_X4_errorsByPrints
set_option maxRecDepth 20000 in
theorem ggX4_countAheadOf_X0_countPrints : GoodIn wsX4_countAheadOf wsX0_countPrints := goodIn_r _ [66, 41, 67, 68, 69, 21, 70, 23, 25, 26, 12, 13, 14, 15, 16, 17, 71, 72, 73, 75, 76, 77, 78, 79, 80, 81, 82, 83, 84, 85, 86, 87, 88, 89, 90, 91] (by decide +kernel) (by decide +kernel)
set_option maxRecDepth 20000 in
theorem gX4_countAheadOf_X0_countPrints : GoodIn wsX4_countAheadOf (wsV RX4 105 RX0 yX0_countPrints wsX0_countPrints) := goodIn_app (goodIn_of _ (by decide +kernel)) ggX4_countAheadOf_X0_countPrints
theorem dX4_countAheadOf_0 : decode cX4_countAheadOf 0 = .ok (.aload_n 0, 1) := by decide +kernel
theorem dX4_countAheadOf_1 : decode cX4_countAheadOf 1 = .ok (.aload_n 1, 1) := by decide +kernel
theorem dX4_countAheadOf_2 : decode cX4_countAheadOf 2 = .ok (.getfield 87, 3) := by decide +kernel
theorem dX4_countAheadOf_5 : decode cX4_countAheadOf 5 = .ok (.invokevirtual 90, 3) := by decide +kernel
theorem dX4_countAheadOf_8 : decode cX4_countAheadOf 8 = .ok (.istore_n 2, 1) := by decide +kernel
theorem dX4_countAheadOf_9 : decode cX4_countAheadOf 9 = .ok (.aload_n 0, 1) := by decide +kernel
theorem dX4_countAheadOf_10 : decode cX4_countAheadOf 10 = .ok (.getfield 9, 3) := by decide +kernel
theorem dX4_countAheadOf_13 : decode cX4_countAheadOf 13 = .ok (.aload_n 1, 1) := by decide +kernel
theorem dX4_countAheadOf_14 : decode cX4_countAheadOf 14 = .ok (.invokevirtual 105, 3) := by decide +kernel
theorem dX4_countAheadOf_17 : decode cX4_countAheadOf 17 = .ok (.istore_n 3, 1) := by decide +kernel
theorem dX4_countAheadOf_18 : decode cX4_countAheadOf 18 = .ok (.iconst 0, 1) := by decide +kernel
theorem dX4_countAheadOf_19 : decode cX4_countAheadOf 19 = .ok (.istore 4, 2) := by decide +kernel
theorem dX4_countAheadOf_21 : decode cX4_countAheadOf 21 = .ok (.aload_n 0, 1) := by decide +kernel
theorem dX4_countAheadOf_22 : decode cX4_countAheadOf 22 = .ok (.getfield 9, 3) := by decide +kernel
theorem dX4_countAheadOf_25 : decode cX4_countAheadOf 25 = .ok (.getfield 109, 3) := by decide +kernel
theorem dX4_countAheadOf_28 : decode cX4_countAheadOf 28 = .ok (.astore 5, 2) := by decide +kernel
theorem dX4_countAheadOf_30 : decode cX4_countAheadOf 30 = .ok (.aload 5, 2) := by decide +kernel
theorem dX4_countAheadOf_32 : decode cX4_countAheadOf 32 = .ok (.arraylength, 1) := by decide +kernel
theorem dX4_countAheadOf_33 : decode cX4_countAheadOf 33 = .ok (.istore 6, 2) := by decide +kernel
theorem dX4_countAheadOf_35 : decode cX4_countAheadOf 35 = .ok (.iconst 0, 1) := by decide +kernel
theorem dX4_countAheadOf_36 : decode cX4_countAheadOf 36 = .ok (.istore 7, 2) := by decide +kernel
theorem dX4_countAheadOf_38 : decode cX4_countAheadOf 38 = .ok (.iload 7, 2) := by decide +kernel
theorem dX4_countAheadOf_40 : decode cX4_countAheadOf 40 = .ok (.iload 6, 2) := by decide +kernel
theorem dX4_countAheadOf_42 : decode cX4_countAheadOf 42 = .ok (.if_icmp .ge 97, 3) := by decide +kernel
theorem dX4_countAheadOf_45 : decode cX4_countAheadOf 45 = .ok (.aload 5, 2) := by decide +kernel
theorem dX4_countAheadOf_47 : decode cX4_countAheadOf 47 = .ok (.iload 7, 2) := by decide +kernel
theorem dX4_countAheadOf_49 : decode cX4_countAheadOf 49 = .ok (.aaload, 1) := by decide +kernel
theorem dX4_countAheadOf_50 : decode cX4_countAheadOf 50 = .ok (.astore 8, 2) := by decide +kernel
theorem dX4_countAheadOf_52 : decode cX4_countAheadOf 52 = .ok (.aload_n 0, 1) := by decide +kernel
theorem dX4_countAheadOf_53 : decode cX4_countAheadOf 53 = .ok (.aload 8, 2) := by decide +kernel
theorem dX4_countAheadOf_55 : decode cX4_countAheadOf 55 = .ok (.getfield 87, 3) := by decide +kernel
theorem dX4_countAheadOf_58 : decode cX4_countAheadOf 58 = .ok (.invokevirtual 90, 3) := by decide +kernel
theorem dX4_countAheadOf_61 : decode cX4_countAheadOf 61 = .ok (.iload_n 2, 1) := by decide +kernel
theorem dX4_countAheadOf_62 : decode cX4_countAheadOf 62 = .ok (.isub, 1) := by decide +kernel
theorem dX4_countAheadOf_63 : decode cX4_countAheadOf 63 = .ok (.istore 9, 2) := by decide +kernel
theorem dX4_countAheadOf_65 : decode cX4_countAheadOf 65 = .ok (.aload_n 0, 1) := by decide +kernel
theorem dX4_countAheadOf_66 : decode cX4_countAheadOf 66 = .ok (.getfield 9, 3) := by decide +kernel
theorem dX4_countAheadOf_69 : decode cX4_countAheadOf 69 = .ok (.aload 8, 2) := by decide +kernel
theorem dX4_countAheadOf_71 : decode cX4_countAheadOf 71 = .ok (.invokevirtual 105, 3) := by decide +kernel
theorem dX4_countAheadOf_74 : decode cX4_countAheadOf 74 = .ok (.iload_n 3, 1) := by decide +kernel
theorem dX4_countAheadOf_75 : decode cX4_countAheadOf 75 = .ok (.isub, 1) := by decide +kernel
theorem dX4_countAheadOf_76 : decode cX4_countAheadOf 76 = .ok (.istore 10, 2) := by decide +kernel
theorem dX4_countAheadOf_78 : decode cX4_countAheadOf 78 = .ok (.iload 9, 2) := by decide +kernel
theorem dX4_countAheadOf_80 : decode cX4_countAheadOf 80 = .ok (.ifCond .eq 8, 3) := by decide +kernel
theorem dX4_countAheadOf_83 : decode cX4_countAheadOf 83 = .ok (.iload 9, 2) := by decide +kernel
theorem dX4_countAheadOf_85 : decode cX4_countAheadOf 85 = .ok (.goto 23, 3) := by decide +kernel
theorem dX4_countAheadOf_88 : decode cX4_countAheadOf 88 = .ok (.iload 10, 2) := by decide +kernel
theorem dX4_countAheadOf_90 : decode cX4_countAheadOf 90 = .ok (.ifCond .eq 8, 3) := by decide +kernel
theorem dX4_countAheadOf_93 : decode cX4_countAheadOf 93 = .ok (.iload 10, 2) := by decide +kernel
theorem dX4_countAheadOf_95 : decode cX4_countAheadOf 95 = .ok (.goto 13, 3) := by decide +kernel
theorem dX4_countAheadOf_98 : decode cX4_countAheadOf 98 = .ok (.aload_n 1, 1) := by decide +kernel
theorem dX4_countAheadOf_99 : decode cX4_countAheadOf 99 = .ok (.getfield 87, 3) := by decide +kernel
theorem dX4_countAheadOf_102 : decode cX4_countAheadOf 102 = .ok (.aload 8, 2) := by decide +kernel
theorem dX4_countAheadOf_104 : decode cX4_countAheadOf 104 = .ok (.getfield 87, 3) := by decide +kernel
theorem dX4_countAheadOf_107 : decode cX4_countAheadOf 107 = .ok (.isub, 1) := by decide +kernel
theorem dX4_countAheadOf_108 : decode cX4_countAheadOf 108 = .ok (.istore 11, 2) := by decide +kernel
theorem dX4_countAheadOf_110 : decode cX4_countAheadOf 110 = .ok (.iload 4, 2) := by decide +kernel
theorem dX4_countAheadOf_112 : decode cX4_countAheadOf 112 = .ok (.aload 8, 2) := by decide +kernel
theorem dX4_countAheadOf_114 : decode cX4_countAheadOf 114 = .ok (.getfield 113, 3) := by decide +kernel
theorem dX4_countAheadOf_117 : decode cX4_countAheadOf 117 = .ok (.ifCond .eq 12, 3) := by decide +kernel
theorem dX4_countAheadOf_120 : decode cX4_countAheadOf 120 = .ok (.iload 11, 2) := by decide +kernel
theorem dX4_countAheadOf_122 : decode cX4_countAheadOf 122 = .ok (.ifCond .le 7, 3) := by decide +kernel
theorem dX4_countAheadOf_125 : decode cX4_countAheadOf 125 = .ok (.iconst 1, 1) := by decide +kernel
theorem dX4_countAheadOf_126 : decode cX4_countAheadOf 126 = .ok (.goto 4, 3) := by decide +kernel
theorem dX4_countAheadOf_129 : decode cX4_countAheadOf 129 = .ok (.iconst 0, 1) := by decide +kernel
theorem dX4_countAheadOf_130 : decode cX4_countAheadOf 130 = .ok (.iadd, 1) := by decide +kernel
theorem dX4_countAheadOf_131 : decode cX4_countAheadOf 131 = .ok (.istore 4, 2) := by decide +kernel
theorem dX4_countAheadOf_133 : decode cX4_countAheadOf 133 = .ok (.iinc 7 1, 3) := by decide +kernel
theorem dX4_countAheadOf_136 : decode cX4_countAheadOf 136 = .ok (.goto (-98), 3) := by decide +kernel
theorem dX4_countAheadOf_139 : decode cX4_countAheadOf 139 = .ok (.iload 4, 2) := by decide +kernel
theorem dX4_countAheadOf_141 : decode cX4_countAheadOf 141 = .ok (.ireturn, 1) := by decide +kernel
set_option maxRecDepth 20000 in
theorem ggX4_holds_X4_trackHolds : GoodIn wsX4_holds wsX4_trackHolds := goodIn_r _ [12, 13, 14, 15, 16, 11, 17, 1, 4, 6, 7, 18, 19, 20, 21, 22, 23, 24, 25, 26, 27, 28, 29, 30, 31, 32, 33, 34, 35, 36, 37, 38, 39, 40, 41, 42, 43, 44, 45, 46, 47, 48, 49, 50, 51, 52, 53, 54, 55, 56, 57, 58, 59, 60, 61, 62, 63, 64, 65, 66, 67, 68, 69, 70, 71, 72, 73, 74, 75, 76, 77, 78, 79, 80, 81, 82, 83, 84, 85, 86, 87, 88, 89, 90, 91, 92, 93, 94, 95, 96, 117, 118, 119, 109, 110, 111, 112, 113, 114, 115, 116, 120, 121, 122, 123, 124, 125, 126, 127, 128, 129] (by decide +kernel) (by decide +kernel)
set_option maxRecDepth 20000 in
theorem gX4_holds_X4_trackHolds : GoodIn wsX4_holds (wsV RX4 116 RX4 yX4_trackHolds wsX4_trackHolds) := goodIn_app (goodIn_of _ (by decide +kernel)) ggX4_holds_X4_trackHolds
set_option maxRecDepth 20000 in
theorem ggX4_holds_X0_isUnderWater : GoodIn wsX4_holds wsX0_isUnderWater := goodIn_r _ [100, 101, 110, 111, 112, 113, 114, 115, 116] (by decide +kernel) (by decide +kernel)
set_option maxRecDepth 20000 in
theorem gX4_holds_X0_isUnderWater : GoodIn wsX4_holds (wsV RX4 121 RX0 yX0_isUnderWater wsX0_isUnderWater) := goodIn_app (goodIn_of _ (by decide +kernel)) ggX4_holds_X0_isUnderWater
set_option maxRecDepth 20000 in
theorem ggX4_holds_X0_inCell : GoodIn wsX4_holds wsX0_inCell := goodIn_r _ [105, 30, 106, 107, 108, 110, 111, 112, 113, 114, 115, 116, 120, 121, 122, 123, 124, 125, 126, 127, 128, 129] (by decide +kernel) (by decide +kernel)
set_option maxRecDepth 20000 in
theorem gX4_holds_X0_inCell : GoodIn wsX4_holds (wsV RX4 124 RX0 yX0_inCell wsX0_inCell) := goodIn_app (goodIn_of _ (by decide +kernel)) ggX4_holds_X0_inCell
theorem dX4_holds_0 : decode cX4_holds 0 = .ok (.aload_n 0, 1) := by decide +kernel
theorem dX4_holds_1 : decode cX4_holds 1 = .ok (.getfield 9, 3) := by decide +kernel
theorem dX4_holds_4 : decode cX4_holds 4 = .ok (.getfield 109, 3) := by decide +kernel
theorem dX4_holds_7 : decode cX4_holds 7 = .ok (.astore_n 1, 1) := by decide +kernel
theorem dX4_holds_8 : decode cX4_holds 8 = .ok (.aload_n 1, 1) := by decide +kernel
theorem dX4_holds_9 : decode cX4_holds 9 = .ok (.arraylength, 1) := by decide +kernel
theorem dX4_holds_10 : decode cX4_holds 10 = .ok (.istore_n 2, 1) := by decide +kernel
theorem dX4_holds_11 : decode cX4_holds 11 = .ok (.iconst 0, 1) := by decide +kernel
theorem dX4_holds_12 : decode cX4_holds 12 = .ok (.istore_n 3, 1) := by decide +kernel
theorem dX4_holds_13 : decode cX4_holds 13 = .ok (.iload_n 3, 1) := by decide +kernel
theorem dX4_holds_14 : decode cX4_holds 14 = .ok (.iload_n 2, 1) := by decide +kernel
theorem dX4_holds_15 : decode cX4_holds 15 = .ok (.if_icmp .ge 33, 3) := by decide +kernel
theorem dX4_holds_18 : decode cX4_holds 18 = .ok (.aload_n 1, 1) := by decide +kernel
theorem dX4_holds_19 : decode cX4_holds 19 = .ok (.iload_n 3, 1) := by decide +kernel
theorem dX4_holds_20 : decode cX4_holds 20 = .ok (.aaload, 1) := by decide +kernel
theorem dX4_holds_21 : decode cX4_holds 21 = .ok (.astore 4, 2) := by decide +kernel
theorem dX4_holds_23 : decode cX4_holds 23 = .ok (.aload 4, 2) := by decide +kernel
theorem dX4_holds_25 : decode cX4_holds 25 = .ok (.getfield 113, 3) := by decide +kernel
theorem dX4_holds_28 : decode cX4_holds 28 = .ok (.ifCond .eq 14, 3) := by decide +kernel
theorem dX4_holds_31 : decode cX4_holds 31 = .ok (.aload_n 0, 1) := by decide +kernel
theorem dX4_holds_32 : decode cX4_holds 32 = .ok (.aload 4, 2) := by decide +kernel
theorem dX4_holds_34 : decode cX4_holds 34 = .ok (.invokevirtual 116, 3) := by decide +kernel
theorem dX4_holds_37 : decode cX4_holds 37 = .ok (.ifCond .ne 5, 3) := by decide +kernel
theorem dX4_holds_40 : decode cX4_holds 40 = .ok (.iconst 0, 1) := by decide +kernel
theorem dX4_holds_41 : decode cX4_holds 41 = .ok (.ireturn, 1) := by decide +kernel
theorem dX4_holds_42 : decode cX4_holds 42 = .ok (.iinc 3 1, 3) := by decide +kernel
theorem dX4_holds_45 : decode cX4_holds 45 = .ok (.goto (-32), 3) := by decide +kernel
theorem dX4_holds_48 : decode cX4_holds 48 = .ok (.aload_n 0, 1) := by decide +kernel
theorem dX4_holds_49 : decode cX4_holds 49 = .ok (.getfield 9, 3) := by decide +kernel
theorem dX4_holds_52 : decode cX4_holds 52 = .ok (.getfield 79, 3) := by decide +kernel
theorem dX4_holds_55 : decode cX4_holds 55 = .ok (.astore_n 1, 1) := by decide +kernel
theorem dX4_holds_56 : decode cX4_holds 56 = .ok (.aload_n 1, 1) := by decide +kernel
theorem dX4_holds_57 : decode cX4_holds 57 = .ok (.arraylength, 1) := by decide +kernel
theorem dX4_holds_58 : decode cX4_holds 58 = .ok (.istore_n 2, 1) := by decide +kernel
theorem dX4_holds_59 : decode cX4_holds 59 = .ok (.iconst 0, 1) := by decide +kernel
theorem dX4_holds_60 : decode cX4_holds 60 = .ok (.istore_n 3, 1) := by decide +kernel
theorem dX4_holds_61 : decode cX4_holds 61 = .ok (.iload_n 3, 1) := by decide +kernel
theorem dX4_holds_62 : decode cX4_holds 62 = .ok (.iload_n 2, 1) := by decide +kernel
theorem dX4_holds_63 : decode cX4_holds 63 = .ok (.if_icmp .ge 61, 3) := by decide +kernel
theorem dX4_holds_66 : decode cX4_holds 66 = .ok (.aload_n 1, 1) := by decide +kernel
theorem dX4_holds_67 : decode cX4_holds 67 = .ok (.iload_n 3, 1) := by decide +kernel
theorem dX4_holds_68 : decode cX4_holds 68 = .ok (.aaload, 1) := by decide +kernel
theorem dX4_holds_69 : decode cX4_holds 69 = .ok (.astore 4, 2) := by decide +kernel
theorem dX4_holds_71 : decode cX4_holds 71 = .ok (.aload 4, 2) := by decide +kernel
theorem dX4_holds_73 : decode cX4_holds 73 = .ok (.getfield 120, 3) := by decide +kernel
theorem dX4_holds_76 : decode cX4_holds 76 = .ok (.ifCond .eq 42, 3) := by decide +kernel
theorem dX4_holds_79 : decode cX4_holds 79 = .ok (.aload_n 0, 1) := by decide +kernel
theorem dX4_holds_80 : decode cX4_holds 80 = .ok (.getfield 9, 3) := by decide +kernel
theorem dX4_holds_83 : decode cX4_holds 83 = .ok (.aload 4, 2) := by decide +kernel
theorem dX4_holds_85 : decode cX4_holds 85 = .ok (.getfield 41, 3) := by decide +kernel
theorem dX4_holds_88 : decode cX4_holds 88 = .ok (.invokevirtual 121, 3) := by decide +kernel
theorem dX4_holds_91 : decode cX4_holds 91 = .ok (.ifCond .ne 25, 3) := by decide +kernel
theorem dX4_holds_94 : decode cX4_holds 94 = .ok (.aload_n 0, 1) := by decide +kernel
theorem dX4_holds_95 : decode cX4_holds 95 = .ok (.getfield 9, 3) := by decide +kernel
theorem dX4_holds_98 : decode cX4_holds 98 = .ok (.aload 4, 2) := by decide +kernel
theorem dX4_holds_100 : decode cX4_holds 100 = .ok (.getfield 41, 3) := by decide +kernel
theorem dX4_holds_103 : decode cX4_holds 103 = .ok (.aload 4, 2) := by decide +kernel
theorem dX4_holds_105 : decode cX4_holds 105 = .ok (.getfield 44, 3) := by decide +kernel
theorem dX4_holds_108 : decode cX4_holds 108 = .ok (.invokevirtual 124, 3) := by decide +kernel
theorem dX4_holds_111 : decode cX4_holds 111 = .ok (.aload 4, 2) := by decide +kernel
theorem dX4_holds_113 : decode cX4_holds 113 = .ok (.if_acmp .eq 5, 3) := by decide +kernel
theorem dX4_holds_116 : decode cX4_holds 116 = .ok (.iconst 0, 1) := by decide +kernel
theorem dX4_holds_117 : decode cX4_holds 117 = .ok (.ireturn, 1) := by decide +kernel
theorem dX4_holds_118 : decode cX4_holds 118 = .ok (.iinc 3 1, 3) := by decide +kernel
theorem dX4_holds_121 : decode cX4_holds 121 = .ok (.goto (-60), 3) := by decide +kernel
theorem dX4_holds_124 : decode cX4_holds 124 = .ok (.iconst 1, 1) := by decide +kernel
theorem dX4_holds_125 : decode cX4_holds 125 = .ok (.ireturn, 1) := by decide +kernel
set_option maxRecDepth 20000 in
theorem ggX4_trackHolds_X4_lengthByPrints : GoodIn wsX4_trackHolds wsX4_lengthByPrints := goodIn_r _ [6, 7, 8, 1, 9, 10, 11, 12, 13, 14, 15, 16, 17, 18, 19, 20, 21, 22, 23, 24, 25, 26, 27, 28, 29, 30, 31, 32, 33, 34, 35, 36, 93, 94, 95, 96, 97, 98, 99, 100, 90, 91, 92, 101, 102, 103, 104, 105, 106, 107, 108, 109, 110] (by decide +kernel) (by decide +kernel)
set_option maxRecDepth 20000 in
theorem gX4_trackHolds_X4_lengthByPrints : GoodIn wsX4_trackHolds (wsV RX4 128 RX4 yX4_lengthByPrints wsX4_lengthByPrints) := goodIn_app (goodIn_of _ (by decide +kernel)) ggX4_trackHolds_X4_lengthByPrints
set_option maxRecDepth 20000 in
theorem ggX4_trackHolds_X4_lengthByDirections : GoodIn wsX4_trackHolds wsX4_lengthByDirections := goodIn_r _ [40, 7, 8, 1, 9, 41, 33, 34, 35, 10, 11, 12, 13, 14, 15, 16, 17, 18, 19, 20, 21, 22, 23, 24, 25, 26, 93, 94, 95, 96, 97, 98, 99, 100, 90, 91, 92, 101, 102, 103, 104, 105, 106, 107, 108, 109, 110] (by decide +kernel) (by decide +kernel)
set_option maxRecDepth 20000 in
theorem gX4_trackHolds_X4_lengthByDirections : GoodIn wsX4_trackHolds (wsV RX4 131 RX4 yX4_lengthByDirections wsX4_lengthByDirections) := goodIn_app (goodIn_of _ (by decide +kernel)) ggX4_trackHolds_X4_lengthByDirections
set_option maxRecDepth 20000 in
theorem ggX4_trackHolds_X4_errorsByPrints : GoodIn wsX4_trackHolds wsX4_errorsByPrints := goodIn_r _ [45, 7, 8, 11, 12, 13, 14, 15, 16, 17, 18, 19, 20, 21, 22, 23, 24, 25, 26, 46, 47, 48, 5, 49, 50, 9, 10, 51, 52, 53, 54, 55, 56, 57, 58, 27, 28, 29, 30, 31, 32, 33, 34, 35, 36, 59, 60, 61, 62, 63, 64, 65, 66, 67, 68, 41, 93, 94, 95, 96, 97, 98, 99, 100, 101, 102, 103, 104, 105, 106, 107, 108, 109, 110, 90, 91, 92] (by decide +kernel) (by decide +kernel)
set_option maxRecDepth 20000 in
theorem gX4_trackHolds_X4_errorsByPrints : GoodIn wsX4_trackHolds (wsV RX4 90 RX4 yX4_errorsByPrints wsX4_errorsByPrints) := goodIn_app (goodIn_of _ (by decide +kernel)) ggX4_trackHolds_X4_errorsByPrints
set_option maxRecDepth 20000 in
theorem ggX4_trackHolds_X4_errorsByKinds : GoodIn wsX4_trackHolds wsX4_errorsByKinds := goodIn_r _ [72, 7, 8, 11, 12, 13, 14, 15, 16, 17, 18, 19, 20, 21, 22, 23, 24, 25, 26, 46, 47, 48, 5, 49, 50, 9, 10, 51, 52, 53, 54, 55, 56, 57, 58, 27, 28, 29, 30, 31, 32, 33, 34, 35, 36, 59, 60, 61, 62, 63, 64, 65, 66, 67, 68, 41, 93, 94, 95, 96, 97, 98, 99, 100, 101, 102, 103, 104, 105, 106, 107, 108, 109, 110, 90, 91, 92] (by decide +kernel) (by decide +kernel)
set_option maxRecDepth 20000 in
theorem gX4_trackHolds_X4_errorsByKinds : GoodIn wsX4_trackHolds (wsV RX4 134 RX4 yX4_errorsByKinds wsX4_errorsByKinds) := goodIn_app (goodIn_of _ (by decide +kernel)) ggX4_trackHolds_X4_errorsByKinds
set_option maxRecDepth 20000 in
theorem ggX4_trackHolds_X4_isInTimeOrder : GoodIn wsX4_trackHolds wsX4_isInTimeOrder := goodIn_r _ [76, 7, 77, 78, 79, 80, 21, 81, 58, 82, 83, 84, 85, 23, 25, 26, 12, 13, 14, 15, 16, 17, 86, 87, 88, 89, 93, 101, 102, 103, 104, 105, 106, 107, 108, 109, 110, 90, 91, 92, 94, 95, 96, 97, 98, 99, 100] (by decide +kernel) (by decide +kernel)
set_option maxRecDepth 20000 in
theorem gX4_trackHolds_X4_isInTimeOrder : GoodIn wsX4_trackHolds (wsV RX4 137 RX4 yX4_isInTimeOrder wsX4_isInTimeOrder) := goodIn_app (goodIn_of _ (by decide +kernel)) ggX4_trackHolds_X4_isInTimeOrder
theorem dX4_trackHolds_0 : decode cX4_trackHolds 0 = .ok (.aload_n 0, 1) := by decide +kernel
theorem dX4_trackHolds_1 : decode cX4_trackHolds 1 = .ok (.aload_n 1, 1) := by decide +kernel
theorem dX4_trackHolds_2 : decode cX4_trackHolds 2 = .ok (.invokevirtual 128, 3) := by decide +kernel
theorem dX4_trackHolds_5 : decode cX4_trackHolds 5 = .ok (.aload_n 0, 1) := by decide +kernel
theorem dX4_trackHolds_6 : decode cX4_trackHolds 6 = .ok (.aload_n 1, 1) := by decide +kernel
theorem dX4_trackHolds_7 : decode cX4_trackHolds 7 = .ok (.invokevirtual 131, 3) := by decide +kernel
theorem dX4_trackHolds_10 : decode cX4_trackHolds 10 = .ok (.if_icmp .ne 34, 3) := by decide +kernel
theorem dX4_trackHolds_13 : decode cX4_trackHolds 13 = .ok (.aload_n 0, 1) := by decide +kernel
theorem dX4_trackHolds_14 : decode cX4_trackHolds 14 = .ok (.aload_n 1, 1) := by decide +kernel
theorem dX4_trackHolds_15 : decode cX4_trackHolds 15 = .ok (.getfield 87, 3) := by decide +kernel
theorem dX4_trackHolds_18 : decode cX4_trackHolds 18 = .ok (.invokevirtual 90, 3) := by decide +kernel
theorem dX4_trackHolds_21 : decode cX4_trackHolds 21 = .ok (.aload_n 0, 1) := by decide +kernel
theorem dX4_trackHolds_22 : decode cX4_trackHolds 22 = .ok (.aload_n 1, 1) := by decide +kernel
theorem dX4_trackHolds_23 : decode cX4_trackHolds 23 = .ok (.getfield 87, 3) := by decide +kernel
theorem dX4_trackHolds_26 : decode cX4_trackHolds 26 = .ok (.invokevirtual 134, 3) := by decide +kernel
theorem dX4_trackHolds_29 : decode cX4_trackHolds 29 = .ok (.if_icmp .ne 15, 3) := by decide +kernel
theorem dX4_trackHolds_32 : decode cX4_trackHolds 32 = .ok (.aload_n 0, 1) := by decide +kernel
theorem dX4_trackHolds_33 : decode cX4_trackHolds 33 = .ok (.aload_n 1, 1) := by decide +kernel
theorem dX4_trackHolds_34 : decode cX4_trackHolds 34 = .ok (.invokevirtual 137, 3) := by decide +kernel
theorem dX4_trackHolds_37 : decode cX4_trackHolds 37 = .ok (.ifCond .eq 7, 3) := by decide +kernel
theorem dX4_trackHolds_40 : decode cX4_trackHolds 40 = .ok (.iconst 1, 1) := by decide +kernel
theorem dX4_trackHolds_41 : decode cX4_trackHolds 41 = .ok (.goto 4, 3) := by decide +kernel
theorem dX4_trackHolds_44 : decode cX4_trackHolds 44 = .ok (.iconst 0, 1) := by decide +kernel
theorem dX4_trackHolds_45 : decode cX4_trackHolds 45 = .ok (.ireturn, 1) := by decide +kernel
set_option maxRecDepth 20000 in
theorem ggX4_isInTimeOrder_X0_countPrints : GoodIn wsX4_isInTimeOrder wsX0_countPrints := goodIn_r _ [7, 8, 9, 10, 11, 6, 12, 13, 14, 15, 16, 17, 18, 19, 20, 21, 37, 38, 39, 40, 41, 42, 43, 44, 45, 46, 27, 28, 29, 30, 31, 32, 33, 34, 35, 36] (by decide +kernel) (by decide +kernel)
set_option maxRecDepth 20000 in
theorem gX4_isInTimeOrder_X0_countPrints : GoodIn wsX4_isInTimeOrder (wsV RX4 105 RX0 yX0_countPrints wsX0_countPrints) := goodIn_app (goodIn_of _ (by decide +kernel)) ggX4_isInTimeOrder_X0_countPrints
set_option maxRecDepth 20000 in
theorem ggX4_isInTimeOrder_X0_inPlace : GoodIn wsX4_isInTimeOrder wsX0_inPlace := goodIn_r _ [25, 13, 8, 14, 15, 16, 17, 18, 19, 20, 21, 9, 10, 11, 6, 12, 40, 41, 42, 43, 44, 45, 46, 37, 38, 39, 27, 28, 29, 30, 31, 32, 33, 34, 35, 36] (by decide +kernel) (by decide +kernel)
set_option maxRecDepth 20000 in
theorem gX4_isInTimeOrder_X0_inPlace : GoodIn wsX4_isInTimeOrder (wsV RX4 140 RX0 yX0_inPlace wsX0_inPlace) := goodIn_app (goodIn_of _ (by decide +kernel)) ggX4_isInTimeOrder_X0_inPlace
theorem dX4_isInTimeOrder_0 : decode cX4_isInTimeOrder 0 = .ok (.iconst (-1), 1) := by decide +kernel
theorem dX4_isInTimeOrder_1 : decode cX4_isInTimeOrder 1 = .ok (.istore_n 2, 1) := by decide +kernel
theorem dX4_isInTimeOrder_2 : decode cX4_isInTimeOrder 2 = .ok (.aload_n 0, 1) := by decide +kernel
theorem dX4_isInTimeOrder_3 : decode cX4_isInTimeOrder 3 = .ok (.getfield 9, 3) := by decide +kernel
theorem dX4_isInTimeOrder_6 : decode cX4_isInTimeOrder 6 = .ok (.aload_n 1, 1) := by decide +kernel
theorem dX4_isInTimeOrder_7 : decode cX4_isInTimeOrder 7 = .ok (.invokevirtual 105, 3) := by decide +kernel
theorem dX4_isInTimeOrder_10 : decode cX4_isInTimeOrder 10 = .ok (.istore_n 3, 1) := by decide +kernel
theorem dX4_isInTimeOrder_11 : decode cX4_isInTimeOrder 11 = .ok (.iconst 0, 1) := by decide +kernel
theorem dX4_isInTimeOrder_12 : decode cX4_isInTimeOrder 12 = .ok (.istore 4, 2) := by decide +kernel
theorem dX4_isInTimeOrder_14 : decode cX4_isInTimeOrder 14 = .ok (.iload 4, 2) := by decide +kernel
theorem dX4_isInTimeOrder_16 : decode cX4_isInTimeOrder 16 = .ok (.iload_n 3, 1) := by decide +kernel
theorem dX4_isInTimeOrder_17 : decode cX4_isInTimeOrder 17 = .ok (.if_icmp .ge 43, 3) := by decide +kernel
theorem dX4_isInTimeOrder_20 : decode cX4_isInTimeOrder 20 = .ok (.aload_n 0, 1) := by decide +kernel
theorem dX4_isInTimeOrder_21 : decode cX4_isInTimeOrder 21 = .ok (.getfield 9, 3) := by decide +kernel
theorem dX4_isInTimeOrder_24 : decode cX4_isInTimeOrder 24 = .ok (.aload_n 1, 1) := by decide +kernel
theorem dX4_isInTimeOrder_25 : decode cX4_isInTimeOrder 25 = .ok (.iload 4, 2) := by decide +kernel
theorem dX4_isInTimeOrder_27 : decode cX4_isInTimeOrder 27 = .ok (.invokevirtual 140, 3) := by decide +kernel
theorem dX4_isInTimeOrder_30 : decode cX4_isInTimeOrder 30 = .ok (.astore 5, 2) := by decide +kernel
theorem dX4_isInTimeOrder_32 : decode cX4_isInTimeOrder 32 = .ok (.aload 5, 2) := by decide +kernel
theorem dX4_isInTimeOrder_34 : decode cX4_isInTimeOrder 34 = .ok (.ifnull 12, 3) := by decide +kernel
theorem dX4_isInTimeOrder_37 : decode cX4_isInTimeOrder 37 = .ok (.aload 5, 2) := by decide +kernel
theorem dX4_isInTimeOrder_39 : decode cX4_isInTimeOrder 39 = .ok (.getfield 144, 3) := by decide +kernel
theorem dX4_isInTimeOrder_42 : decode cX4_isInTimeOrder 42 = .ok (.iload_n 2, 1) := by decide +kernel
theorem dX4_isInTimeOrder_43 : decode cX4_isInTimeOrder 43 = .ok (.if_icmp .gt 5, 3) := by decide +kernel
theorem dX4_isInTimeOrder_46 : decode cX4_isInTimeOrder 46 = .ok (.iconst 0, 1) := by decide +kernel
theorem dX4_isInTimeOrder_47 : decode cX4_isInTimeOrder 47 = .ok (.ireturn, 1) := by decide +kernel
theorem dX4_isInTimeOrder_48 : decode cX4_isInTimeOrder 48 = .ok (.aload 5, 2) := by decide +kernel
theorem dX4_isInTimeOrder_50 : decode cX4_isInTimeOrder 50 = .ok (.getfield 144, 3) := by decide +kernel
theorem dX4_isInTimeOrder_53 : decode cX4_isInTimeOrder 53 = .ok (.istore_n 2, 1) := by decide +kernel
theorem dX4_isInTimeOrder_54 : decode cX4_isInTimeOrder 54 = .ok (.iinc 4 1, 3) := by decide +kernel
theorem dX4_isInTimeOrder_57 : decode cX4_isInTimeOrder 57 = .ok (.goto (-43), 3) := by decide +kernel
theorem dX4_isInTimeOrder_60 : decode cX4_isInTimeOrder 60 = .ok (.iconst 1, 1) := by decide +kernel
theorem dX4_isInTimeOrder_61 : decode cX4_isInTimeOrder 61 = .ok (.ireturn, 1) := by decide +kernel
theorem dX5_init_0 : decode cX5_init 0 = .ok (.aload_n 0, 1) := by decide +kernel
theorem dX5_init_1 : decode cX5_init 1 = .ok (.invokespecial 1, 3) := by decide +kernel
theorem dX5_init_4 : decode cX5_init 4 = .ok (.aload_n 0, 1) := by decide +kernel
theorem dX5_init_5 : decode cX5_init 5 = .ok (.iload_n 1, 1) := by decide +kernel
theorem dX5_init_6 : decode cX5_init 6 = .ok (.putfield 7, 3) := by decide +kernel
theorem dX5_init_9 : decode cX5_init 9 = .ok (.aload_n 0, 1) := by decide +kernel
theorem dX5_init_10 : decode cX5_init 10 = .ok (.iload_n 2, 1) := by decide +kernel
theorem dX5_init_11 : decode cX5_init 11 = .ok (.putfield 13, 3) := by decide +kernel
theorem dX5_init_14 : decode cX5_init 14 = .ok (.aload_n 0, 1) := by decide +kernel
theorem dX5_init_15 : decode cX5_init 15 = .ok (.aload_n 3, 1) := by decide +kernel
theorem dX5_init_16 : decode cX5_init 16 = .ok (.putfield 16, 3) := by decide +kernel
theorem dX5_init_19 : decode cX5_init 19 = .ok (.return_, 1) := by decide +kernel
set_option maxRecDepth 20000 in
theorem ggX6_init_X7_init : GoodIn wsX6_init wsX7_init := goodIn_r _ [15, 16, 2, 3, 17, 21, 22] (by decide +kernel) (by decide +kernel)
set_option maxRecDepth 20000 in
theorem gX6_init_X7_init : GoodIn wsX6_init (wsX7_init) := ggX6_init_X7_init
set_option maxRecDepth 20000 in
theorem ggX6_init_X1_init : GoodIn wsX6_init wsX1_init := goodIn_r _ [19, 20, 2, 3] (by decide +kernel) (by decide +kernel)
set_option maxRecDepth 20000 in
theorem gX6_init_X1_init_n26 : GoodIn wsX6_init (wsX1_init) := ggX6_init_X1_init
theorem dX6_init_0 : decode cX6_init 0 = .ok (.aload_n 0, 1) := by decide +kernel
theorem dX6_init_1 : decode cX6_init 1 = .ok (.invokespecial 3, 3) := by decide +kernel
theorem dX6_init_4 : decode cX6_init 4 = .ok (.aload_n 0, 1) := by decide +kernel
theorem dX6_init_5 : decode cX6_init 5 = .ok (.new 9, 3) := by decide +kernel
theorem dX6_init_8 : decode cX6_init 8 = .ok (.dup, 1) := by decide +kernel
theorem dX6_init_9 : decode cX6_init 9 = .ok (.bipush 60, 2) := by decide +kernel
theorem dX6_init_11 : decode cX6_init 11 = .ok (.newarray .char, 2) := by decide +kernel
theorem dX6_init_13 : decode cX6_init 13 = .ok (.invokespecial 11, 3) := by decide +kernel
theorem dX6_init_16 : decode cX6_init 16 = .ok (.putfield 14, 3) := by decide +kernel
theorem dX6_init_19 : decode cX6_init 19 = .ok (.aload_n 0, 1) := by decide +kernel
theorem dX6_init_20 : decode cX6_init 20 = .ok (.bipush 20, 2) := by decide +kernel
theorem dX6_init_22 : decode cX6_init 22 = .ok (.anewarray 20, 3) := by decide +kernel
theorem dX6_init_25 : decode cX6_init 25 = .ok (.putfield 22, 3) := by decide +kernel
theorem dX6_init_28 : decode cX6_init 28 = .ok (.iconst 0, 1) := by decide +kernel
theorem dX6_init_29 : decode cX6_init 29 = .ok (.istore_n 1, 1) := by decide +kernel
theorem dX6_init_30 : decode cX6_init 30 = .ok (.iload_n 1, 1) := by decide +kernel
theorem dX6_init_31 : decode cX6_init 31 = .ok (.aload_n 0, 1) := by decide +kernel
theorem dX6_init_32 : decode cX6_init 32 = .ok (.getfield 22, 3) := by decide +kernel
theorem dX6_init_35 : decode cX6_init 35 = .ok (.arraylength, 1) := by decide +kernel
theorem dX6_init_36 : decode cX6_init 36 = .ok (.if_icmp .ge 22, 3) := by decide +kernel
theorem dX6_init_39 : decode cX6_init 39 = .ok (.aload_n 0, 1) := by decide +kernel
theorem dX6_init_40 : decode cX6_init 40 = .ok (.getfield 22, 3) := by decide +kernel
theorem dX6_init_43 : decode cX6_init 43 = .ok (.iload_n 1, 1) := by decide +kernel
theorem dX6_init_44 : decode cX6_init 44 = .ok (.new 20, 3) := by decide +kernel
theorem dX6_init_47 : decode cX6_init 47 = .ok (.dup, 1) := by decide +kernel
theorem dX6_init_48 : decode cX6_init 48 = .ok (.invokespecial 26, 3) := by decide +kernel
theorem dX6_init_51 : decode cX6_init 51 = .ok (.aastore, 1) := by decide +kernel
theorem dX6_init_52 : decode cX6_init 52 = .ok (.iinc 1 1, 3) := by decide +kernel
theorem dX6_init_55 : decode cX6_init 55 = .ok (.goto (-25), 3) := by decide +kernel
theorem dX6_init_58 : decode cX6_init 58 = .ok (.return_, 1) := by decide +kernel
set_option maxRecDepth 20000 in
theorem ggX6_parse_X6_readCommand : GoodIn wsX6_parse wsX6_readCommand := goodIn_ca (goodIn_r _ [11, 5, 1, 12, 4, 13, 14, 15, 16, 17, 18, 19, 20, 21, 22, 23, 24, 25, 10, 26, 27, 28, 29, 30, 31, 32, 33, 34, 35, 36, 37, 38, 39, 40, 41, 42, 43, 44, 45, 46, 47, 48, 49, 50, 51, 52, 53, 54, 55, 56, 57, 58, 59, 60, 61, 62, 63, 64, 65, 66, 67, 68, 69, 70, 71, 72, 73, 74, 75, 76, 77, 78, 79, 80, 81, 82, 83, 84, 85, 86, 87, 88, 89, 90, 91, 92, 93, 94, 95, 96, 97, 98, 99, 100, 101, 102, 105, 106, 107, 108, 109, 110, 111, 103, 104, 112, 113] (by decide +kernel) (by decide +kernel)) (goodIn_sub (fun _ h => List.mem_cons_of_mem _ (List.mem_append_right _ h)) (by decide +kernel))
set_option maxRecDepth 20000 in
theorem gX6_parse_X6_readCommand : GoodIn wsX6_parse (wsV RX6 34 RX6 yX6_readCommand wsX6_readCommand) := goodIn_app (goodIn_of _ (by decide +kernel)) ggX6_parse_X6_readCommand
set_option maxRecDepth 20000 in
theorem ggX6_parse_X7_signAt : GoodIn wsX6_parse wsX7_signAt := goodIn_ca (goodIn_r _ [17, 18, 19, 20, 21, 16, 22, 23, 103, 104] (by decide +kernel) (by decide +kernel)) (goodIn_sub (fun _ h => List.mem_cons_of_mem _ (List.mem_append_right _ h)) (by decide +kernel))
set_option maxRecDepth 20000 in
theorem gX6_parse_X7_signAt : GoodIn wsX6_parse (wsV RX6 42 RX7 yX7_signAt wsX7_signAt) := goodIn_app (goodIn_of _ (by decide +kernel)) ggX6_parse_X7_signAt
theorem dX6_parse_0 : decode cX6_parse 0 = .ok (.aload_n 0, 1) := by decide +kernel
theorem dX6_parse_1 : decode cX6_parse 1 = .ok (.iconst 0, 1) := by decide +kernel
theorem dX6_parse_2 : decode cX6_parse 2 = .ok (.putfield 27, 3) := by decide +kernel
theorem dX6_parse_5 : decode cX6_parse 5 = .ok (.aload_n 0, 1) := by decide +kernel
theorem dX6_parse_6 : decode cX6_parse 6 = .ok (.iconst 0, 1) := by decide +kernel
theorem dX6_parse_7 : decode cX6_parse 7 = .ok (.putfield 31, 3) := by decide +kernel
theorem dX6_parse_10 : decode cX6_parse 10 = .ok (.iconst 1, 1) := by decide +kernel
theorem dX6_parse_11 : decode cX6_parse 11 = .ok (.istore_n 1, 1) := by decide +kernel
theorem dX6_parse_12 : decode cX6_parse 12 = .ok (.iconst 0, 1) := by decide +kernel
theorem dX6_parse_13 : decode cX6_parse 13 = .ok (.istore_n 2, 1) := by decide +kernel
theorem dX6_parse_14 : decode cX6_parse 14 = .ok (.iload_n 2, 1) := by decide +kernel
theorem dX6_parse_15 : decode cX6_parse 15 = .ok (.aload_n 0, 1) := by decide +kernel
theorem dX6_parse_16 : decode cX6_parse 16 = .ok (.getfield 22, 3) := by decide +kernel
theorem dX6_parse_19 : decode cX6_parse 19 = .ok (.arraylength, 1) := by decide +kernel
theorem dX6_parse_20 : decode cX6_parse 20 = .ok (.if_icmp .ge 80, 3) := by decide +kernel
theorem dX6_parse_23 : decode cX6_parse 23 = .ok (.iload_n 1, 1) := by decide +kernel
theorem dX6_parse_24 : decode cX6_parse 24 = .ok (.ifCond .eq 76, 3) := by decide +kernel
theorem dX6_parse_27 : decode cX6_parse 27 = .ok (.aload_n 0, 1) := by decide +kernel
theorem dX6_parse_28 : decode cX6_parse 28 = .ok (.aload_n 0, 1) := by decide +kernel
theorem dX6_parse_29 : decode cX6_parse 29 = .ok (.getfield 22, 3) := by decide +kernel
theorem dX6_parse_32 : decode cX6_parse 32 = .ok (.iload_n 2, 1) := by decide +kernel
theorem dX6_parse_33 : decode cX6_parse 33 = .ok (.aaload, 1) := by decide +kernel
theorem dX6_parse_34 : decode cX6_parse 34 = .ok (.invokevirtual 34, 3) := by decide +kernel
theorem dX6_parse_37 : decode cX6_parse 37 = .ok (.aload_n 0, 1) := by decide +kernel
theorem dX6_parse_38 : decode cX6_parse 38 = .ok (.dup, 1) := by decide +kernel
theorem dX6_parse_39 : decode cX6_parse 39 = .ok (.getfield 31, 3) := by decide +kernel
theorem dX6_parse_42 : decode cX6_parse 42 = .ok (.iconst 1, 1) := by decide +kernel
theorem dX6_parse_43 : decode cX6_parse 43 = .ok (.iadd, 1) := by decide +kernel
theorem dX6_parse_44 : decode cX6_parse 44 = .ok (.putfield 31, 3) := by decide +kernel
theorem dX6_parse_47 : decode cX6_parse 47 = .ok (.aload_n 0, 1) := by decide +kernel
theorem dX6_parse_48 : decode cX6_parse 48 = .ok (.getfield 38, 3) := by decide +kernel
theorem dX6_parse_51 : decode cX6_parse 51 = .ok (.ifCond .ne 23, 3) := by decide +kernel
theorem dX6_parse_54 : decode cX6_parse 54 = .ok (.aload_n 0, 1) := by decide +kernel
theorem dX6_parse_55 : decode cX6_parse 55 = .ok (.getfield 14, 3) := by decide +kernel
theorem dX6_parse_58 : decode cX6_parse 58 = .ok (.aload_n 0, 1) := by decide +kernel
theorem dX6_parse_59 : decode cX6_parse 59 = .ok (.getfield 27, 3) := by decide +kernel
theorem dX6_parse_62 : decode cX6_parse 62 = .ok (.invokevirtual 42, 3) := by decide +kernel
theorem dX6_parse_65 : decode cX6_parse 65 = .ok (.bipush 59, 2) := by decide +kernel
theorem dX6_parse_67 : decode cX6_parse 67 = .ok (.if_icmp .ne 7, 3) := by decide +kernel
theorem dX6_parse_70 : decode cX6_parse 70 = .ok (.iconst 1, 1) := by decide +kernel
theorem dX6_parse_71 : decode cX6_parse 71 = .ok (.goto 4, 3) := by decide +kernel
theorem dX6_parse_74 : decode cX6_parse 74 = .ok (.iconst 0, 1) := by decide +kernel
theorem dX6_parse_75 : decode cX6_parse 75 = .ok (.istore_n 1, 1) := by decide +kernel
theorem dX6_parse_76 : decode cX6_parse 76 = .ok (.aload_n 0, 1) := by decide +kernel
theorem dX6_parse_77 : decode cX6_parse 77 = .ok (.dup, 1) := by decide +kernel
theorem dX6_parse_78 : decode cX6_parse 78 = .ok (.getfield 27, 3) := by decide +kernel
theorem dX6_parse_81 : decode cX6_parse 81 = .ok (.iload_n 1, 1) := by decide +kernel
theorem dX6_parse_82 : decode cX6_parse 82 = .ok (.ifCond .eq 7, 3) := by decide +kernel
theorem dX6_parse_85 : decode cX6_parse 85 = .ok (.iconst 1, 1) := by decide +kernel
theorem dX6_parse_86 : decode cX6_parse 86 = .ok (.goto 4, 3) := by decide +kernel
theorem dX6_parse_89 : decode cX6_parse 89 = .ok (.iconst 0, 1) := by decide +kernel
theorem dX6_parse_90 : decode cX6_parse 90 = .ok (.iadd, 1) := by decide +kernel
theorem dX6_parse_91 : decode cX6_parse 91 = .ok (.putfield 27, 3) := by decide +kernel
theorem dX6_parse_94 : decode cX6_parse 94 = .ok (.iinc 2 1, 3) := by decide +kernel
theorem dX6_parse_97 : decode cX6_parse 97 = .ok (.goto (-83), 3) := by decide +kernel
theorem dX6_parse_100 : decode cX6_parse 100 = .ok (.aload_n 0, 1) := by decide +kernel
theorem dX6_parse_101 : decode cX6_parse 101 = .ok (.getfield 38, 3) := by decide +kernel
theorem dX6_parse_104 : decode cX6_parse 104 = .ok (.ifCond .ne 21, 3) := by decide +kernel
theorem dX6_parse_107 : decode cX6_parse 107 = .ok (.iload_n 1, 1) := by decide +kernel
theorem dX6_parse_108 : decode cX6_parse 108 = .ok (.ifCond .ne 17, 3) := by decide +kernel
theorem dX6_parse_111 : decode cX6_parse 111 = .ok (.aload_n 0, 1) := by decide +kernel
theorem dX6_parse_112 : decode cX6_parse 112 = .ok (.getfield 27, 3) := by decide +kernel
theorem dX6_parse_115 : decode cX6_parse 115 = .ok (.aload_n 0, 1) := by decide +kernel
theorem dX6_parse_116 : decode cX6_parse 116 = .ok (.getfield 14, 3) := by decide +kernel
theorem dX6_parse_119 : decode cX6_parse 119 = .ok (.getfield 46, 3) := by decide +kernel
theorem dX6_parse_122 : decode cX6_parse 122 = .ok (.if_icmp .ge 10, 3) := by decide +kernel
theorem dX6_parse_125 : decode cX6_parse 125 = .ok (.aload_n 0, 1) := by decide +kernel
theorem dX6_parse_126 : decode cX6_parse 126 = .ok (.getfield 27, 3) := by decide +kernel
theorem dX6_parse_129 : decode cX6_parse 129 = .ok (.goto 4, 3) := by decide +kernel
theorem dX6_parse_132 : decode cX6_parse 132 = .ok (.iconst (-1), 1) := by decide +kernel
theorem dX6_parse_133 : decode cX6_parse 133 = .ok (.ireturn, 1) := by decide +kernel
set_option maxRecDepth 20000 in
theorem ggX6_readCommand_X7_signAt : GoodIn wsX6_readCommand wsX7_signAt := goodIn_ca (goodIn_r _ [9, 10, 11, 12, 13, 8, 14, 15, 103, 104] (by decide +kernel) (by decide +kernel)) (goodIn_sub (fun _ h => List.mem_cons_of_mem _ (List.mem_append_right _ h)) (by decide +kernel))
set_option maxRecDepth 20000 in
theorem gX6_readCommand_X7_signAt : GoodIn wsX6_readCommand (wsV RX6 42 RX7 yX7_signAt wsX7_signAt) := goodIn_app (goodIn_of _ (by decide +kernel)) ggX6_readCommand_X7_signAt
set_option maxRecDepth 20000 in
theorem ggX6_readCommand_X6_partsBehind : GoodIn wsX6_readCommand wsX6_partsBehind := goodIn_r _ [19] (by decide +kernel) (by decide +kernel)
set_option maxRecDepth 20000 in
theorem gX6_readCommand_X6_partsBehind : GoodIn wsX6_readCommand (va_wsS RX6 53 yX6_partsBehind wsX6_partsBehind) := goodIn_app (goodIn_of _ (by decide +kernel)) ggX6_readCommand_X6_partsBehind
set_option maxRecDepth 20000 in
theorem ggX6_readCommand_J0_isEmpty_aae02 : GoodIn wsX6_readCommand wsJ0_isEmpty_aae02 := goodIn_r _ [24, 25, 105, 106] (by decide +kernel) (by decide +kernel)
set_option maxRecDepth 20000 in
theorem gX6_readCommand_J0_isEmpty_aae02 : GoodIn wsX6_readCommand (wsV RX6 57 RJ0 yJ0_isEmpty_aae02 wsJ0_isEmpty_aae02) := goodIn_app (goodIn_of _ (by decide +kernel)) ggX6_readCommand_J0_isEmpty_aae02
set_option maxRecDepth 20000 in
theorem ggX6_readCommand_J0_length_8abf5 : GoodIn wsX6_readCommand wsJ0_length_8abf5 := goodIn_r _ [29, 25, 30, 31, 32, 23, 33, 34, 35, 105, 106] (by decide +kernel) (by decide +kernel)
set_option maxRecDepth 20000 in
theorem gX6_readCommand_J0_length_8abf5 : GoodIn wsX6_readCommand (wsV RX6 63 RJ0 yJ0_length_8abf5 wsJ0_length_8abf5) := goodIn_app (goodIn_of _ (by decide +kernel)) ggX6_readCommand_J0_length_8abf5
set_option maxRecDepth 20000 in
theorem ggX6_readCommand_J0_charAt_5068e : GoodIn wsX6_readCommand wsJ0_charAt_5068e := goodIn_r _ [39, 25, 40, 41, 42, 23, 43, 34, 35, 44, 45, 46, 47, 48, 49, 50, 51, 52, 53, 54, 55, 56, 57, 58, 59, 60, 61, 62, 63, 64, 65, 66, 67, 68, 69, 70, 71, 72, 105, 106] (by decide +kernel) (by decide +kernel)
set_option maxRecDepth 20000 in
theorem gX6_readCommand_J0_charAt_5068e : GoodIn wsX6_readCommand (wsV RX6 66 RJ0 yJ0_charAt_5068e wsJ0_charAt_5068e) := goodIn_app (goodIn_of _ (by decide +kernel)) ggX6_readCommand_J0_charAt_5068e
set_option maxRecDepth 20000 in
theorem ggX6_readCommand_X6_readPart : GoodIn wsX6_readCommand wsX6_readPart := goodIn_ca (goodIn_r _ [76, 77, 78, 79, 80, 1, 2, 81, 82, 83, 84, 85, 18, 86, 4, 5, 6, 7, 8, 9, 10, 11, 12, 13, 14, 15, 87, 88, 89, 90, 96, 97, 98, 99, 100, 101, 102, 91, 92, 93, 94, 95, 103, 104] (by decide +kernel) (by decide +kernel)) (goodIn_sub (fun _ h => List.mem_cons_of_mem _ (List.mem_append_right _ h)) (by decide +kernel))
set_option maxRecDepth 20000 in
theorem gX6_readCommand_X6_readPart : GoodIn wsX6_readCommand (wsV RX6 69 RX6 yX6_readPart wsX6_readPart) := goodIn_app (goodIn_of _ (by decide +kernel)) ggX6_readCommand_X6_readPart
theorem dX6_readCommand_0 : decode cX6_readCommand 0 = .ok (.aload_n 1, 1) := by decide +kernel
theorem dX6_readCommand_1 : decode cX6_readCommand 1 = .ok (.aload_n 0, 1) := by decide +kernel
theorem dX6_readCommand_2 : decode cX6_readCommand 2 = .ok (.getfield 14, 3) := by decide +kernel
theorem dX6_readCommand_5 : decode cX6_readCommand 5 = .ok (.aload_n 0, 1) := by decide +kernel
theorem dX6_readCommand_6 : decode cX6_readCommand 6 = .ok (.getfield 27, 3) := by decide +kernel
theorem dX6_readCommand_9 : decode cX6_readCommand 9 = .ok (.invokevirtual 42, 3) := by decide +kernel
theorem dX6_readCommand_12 : decode cX6_readCommand 12 = .ok (.putfield 49, 3) := by decide +kernel
theorem dX6_readCommand_15 : decode cX6_readCommand 15 = .ok (.aload_n 1, 1) := by decide +kernel
theorem dX6_readCommand_16 : decode cX6_readCommand 16 = .ok (.getfield 49, 3) := by decide +kernel
theorem dX6_readCommand_19 : decode cX6_readCommand 19 = .ok (.invokestatic 53, 3) := by decide +kernel
theorem dX6_readCommand_22 : decode cX6_readCommand 22 = .ok (.astore_n 2, 1) := by decide +kernel
theorem dX6_readCommand_23 : decode cX6_readCommand 23 = .ok (.aload_n 0, 1) := by decide +kernel
theorem dX6_readCommand_24 : decode cX6_readCommand 24 = .ok (.aload_n 2, 1) := by decide +kernel
theorem dX6_readCommand_25 : decode cX6_readCommand 25 = .ok (.invokevirtual 57, 3) := by decide +kernel
theorem dX6_readCommand_28 : decode cX6_readCommand 28 = .ok (.putfield 38, 3) := by decide +kernel
theorem dX6_readCommand_31 : decode cX6_readCommand 31 = .ok (.aload_n 0, 1) := by decide +kernel
theorem dX6_readCommand_32 : decode cX6_readCommand 32 = .ok (.dup, 1) := by decide +kernel
theorem dX6_readCommand_33 : decode cX6_readCommand 33 = .ok (.getfield 27, 3) := by decide +kernel
theorem dX6_readCommand_36 : decode cX6_readCommand 36 = .ok (.aload_n 0, 1) := by decide +kernel
theorem dX6_readCommand_37 : decode cX6_readCommand 37 = .ok (.getfield 38, 3) := by decide +kernel
theorem dX6_readCommand_40 : decode cX6_readCommand 40 = .ok (.ifCond .eq 7, 3) := by decide +kernel
theorem dX6_readCommand_43 : decode cX6_readCommand 43 = .ok (.iconst 0, 1) := by decide +kernel
theorem dX6_readCommand_44 : decode cX6_readCommand 44 = .ok (.goto 4, 3) := by decide +kernel
theorem dX6_readCommand_47 : decode cX6_readCommand 47 = .ok (.iconst 1, 1) := by decide +kernel
theorem dX6_readCommand_48 : decode cX6_readCommand 48 = .ok (.iadd, 1) := by decide +kernel
theorem dX6_readCommand_49 : decode cX6_readCommand 49 = .ok (.putfield 27, 3) := by decide +kernel
theorem dX6_readCommand_52 : decode cX6_readCommand 52 = .ok (.iconst 0, 1) := by decide +kernel
theorem dX6_readCommand_53 : decode cX6_readCommand 53 = .ok (.istore_n 3, 1) := by decide +kernel
theorem dX6_readCommand_54 : decode cX6_readCommand 54 = .ok (.iload_n 3, 1) := by decide +kernel
theorem dX6_readCommand_55 : decode cX6_readCommand 55 = .ok (.aload_n 2, 1) := by decide +kernel
theorem dX6_readCommand_56 : decode cX6_readCommand 56 = .ok (.invokevirtual 63, 3) := by decide +kernel
theorem dX6_readCommand_59 : decode cX6_readCommand 59 = .ok (.if_icmp .ge 26, 3) := by decide +kernel
theorem dX6_readCommand_62 : decode cX6_readCommand 62 = .ok (.aload_n 0, 1) := by decide +kernel
theorem dX6_readCommand_63 : decode cX6_readCommand 63 = .ok (.getfield 38, 3) := by decide +kernel
theorem dX6_readCommand_66 : decode cX6_readCommand 66 = .ok (.ifCond .ne 19, 3) := by decide +kernel
theorem dX6_readCommand_69 : decode cX6_readCommand 69 = .ok (.aload_n 0, 1) := by decide +kernel
theorem dX6_readCommand_70 : decode cX6_readCommand 70 = .ok (.aload_n 2, 1) := by decide +kernel
theorem dX6_readCommand_71 : decode cX6_readCommand 71 = .ok (.iload_n 3, 1) := by decide +kernel
theorem dX6_readCommand_72 : decode cX6_readCommand 72 = .ok (.invokevirtual 66, 3) := by decide +kernel
theorem dX6_readCommand_75 : decode cX6_readCommand 75 = .ok (.aload_n 1, 1) := by decide +kernel
theorem dX6_readCommand_76 : decode cX6_readCommand 76 = .ok (.invokevirtual 69, 3) := by decide +kernel
theorem dX6_readCommand_79 : decode cX6_readCommand 79 = .ok (.iinc 3 1, 3) := by decide +kernel
theorem dX6_readCommand_82 : decode cX6_readCommand 82 = .ok (.goto (-28), 3) := by decide +kernel
theorem dX6_readCommand_85 : decode cX6_readCommand 85 = .ok (.return_, 1) := by decide +kernel
theorem dX6_partsBehind_0 : decode cX6_partsBehind 0 = .ok (.iload_n 0, 1) := by decide +kernel
theorem dX6_partsBehind_1 : decode cX6_partsBehind 1 = .ok (.tableswitch 115 67 88 #[112, 112, 115, 112, 115, 109, 115, 115, 115, 115, 115, 115, 115, 106, 115, 115, 115, 103, 115, 115, 103, 112], 103) := by decide +kernel
theorem dX6_partsBehind_104 : decode cX6_partsBehind 104 = .ok (.ldc 73, 2) := by decide +kernel
theorem dX6_partsBehind_106 : decode cX6_partsBehind 106 = .ok (.areturn, 1) := by decide +kernel
theorem dX6_partsBehind_107 : decode cX6_partsBehind 107 = .ok (.ldc 75, 2) := by decide +kernel
theorem dX6_partsBehind_109 : decode cX6_partsBehind 109 = .ok (.areturn, 1) := by decide +kernel
theorem dX6_partsBehind_110 : decode cX6_partsBehind 110 = .ok (.ldc 77, 2) := by decide +kernel
theorem dX6_partsBehind_112 : decode cX6_partsBehind 112 = .ok (.areturn, 1) := by decide +kernel
theorem dX6_partsBehind_113 : decode cX6_partsBehind 113 = .ok (.ldc 79, 2) := by decide +kernel
theorem dX6_partsBehind_115 : decode cX6_partsBehind 115 = .ok (.areturn, 1) := by decide +kernel
theorem dX6_partsBehind_116 : decode cX6_partsBehind 116 = .ok (.ldc 81, 2) := by decide +kernel
theorem dX6_partsBehind_118 : decode cX6_partsBehind 118 = .ok (.areturn, 1) := by decide +kernel
set_option maxRecDepth 20000 in
theorem ggX6_readPart_X6_readNumber : GoodIn wsX6_readPart wsX6_readNumber := goodIn_ca (goodIn_r _ [13, 5, 6, 14, 15, 16, 17, 18, 19, 20, 21, 22, 23, 24, 25, 37, 38, 39, 40, 41, 42, 43] (by decide +kernel) (by decide +kernel)) (goodIn_sub (fun _ h => List.mem_cons_of_mem _ (List.mem_append_right _ h)) (by decide +kernel))
set_option maxRecDepth 20000 in
theorem gX6_readPart_X6_readNumber : GoodIn wsX6_readPart (wsV RX6 83 RX6 yX6_readNumber wsX6_readNumber) := goodIn_app (goodIn_of _ (by decide +kernel)) ggX6_readPart_X6_readNumber
set_option maxRecDepth 20000 in
theorem ggX6_readPart_X7_signAt : GoodIn wsX6_readPart wsX7_signAt := goodIn_ca (goodIn_r _ [19, 20, 21, 22, 23, 18, 24, 25, 42, 43] (by decide +kernel) (by decide +kernel)) (goodIn_sub (fun _ h => List.mem_cons_of_mem _ (List.mem_append_right _ h)) (by decide +kernel))
set_option maxRecDepth 20000 in
theorem gX6_readPart_X7_signAt : GoodIn wsX6_readPart (wsV RX6 42 RX7 yX7_signAt wsX7_signAt) := goodIn_app (goodIn_of _ (by decide +kernel)) ggX6_readPart_X7_signAt
set_option maxRecDepth 20000 in
theorem ggX6_readPart_X6_readSign : GoodIn wsX6_readPart wsX6_readSign := goodIn_ca (goodIn_r _ [29, 5, 6, 14, 15, 16, 17, 18, 19, 20, 21, 22, 23, 24, 25, 37, 38, 39, 40, 41, 42, 43] (by decide +kernel) (by decide +kernel)) (goodIn_sub (fun _ h => List.mem_cons_of_mem _ (List.mem_append_right _ h)) (by decide +kernel))
set_option maxRecDepth 20000 in
theorem gX6_readPart_X6_readSign : GoodIn wsX6_readPart (wsV RX6 102 RX6 yX6_readSign wsX6_readSign) := goodIn_app (goodIn_of _ (by decide +kernel)) ggX6_readPart_X6_readSign
theorem dX6_readPart_0 : decode cX6_readPart 0 = .ok (.iload_n 1, 1) := by decide +kernel
theorem dX6_readPart_1 : decode cX6_readPart 1 = .ok (.tableswitch 193 99 116 #[123, 181, 193, 135, 193, 193, 87, 193, 193, 193, 193, 193, 193, 193, 193, 111, 193, 99], 87) := by decide +kernel
theorem dX6_readPart_88 : decode cX6_readPart 88 = .ok (.aload_n 2, 1) := by decide +kernel
theorem dX6_readPart_89 : decode cX6_readPart 89 = .ok (.aload_n 0, 1) := by decide +kernel
theorem dX6_readPart_90 : decode cX6_readPart 90 = .ok (.iconst 3, 1) := by decide +kernel
theorem dX6_readPart_91 : decode cX6_readPart 91 = .ok (.invokevirtual 83, 3) := by decide +kernel
theorem dX6_readPart_94 : decode cX6_readPart 94 = .ok (.putfield 87, 3) := by decide +kernel
theorem dX6_readPart_97 : decode cX6_readPart 97 = .ok (.goto 102, 3) := by decide +kernel
theorem dX6_readPart_100 : decode cX6_readPart 100 = .ok (.aload_n 2, 1) := by decide +kernel
theorem dX6_readPart_101 : decode cX6_readPart 101 = .ok (.aload_n 0, 1) := by decide +kernel
theorem dX6_readPart_102 : decode cX6_readPart 102 = .ok (.iconst 3, 1) := by decide +kernel
theorem dX6_readPart_103 : decode cX6_readPart 103 = .ok (.invokevirtual 83, 3) := by decide +kernel
theorem dX6_readPart_106 : decode cX6_readPart 106 = .ok (.putfield 90, 3) := by decide +kernel
theorem dX6_readPart_109 : decode cX6_readPart 109 = .ok (.goto 90, 3) := by decide +kernel
theorem dX6_readPart_112 : decode cX6_readPart 112 = .ok (.aload_n 2, 1) := by decide +kernel
theorem dX6_readPart_113 : decode cX6_readPart 113 = .ok (.aload_n 0, 1) := by decide +kernel
theorem dX6_readPart_114 : decode cX6_readPart 114 = .ok (.iconst 3, 1) := by decide +kernel
theorem dX6_readPart_115 : decode cX6_readPart 115 = .ok (.invokevirtual 83, 3) := by decide +kernel
theorem dX6_readPart_118 : decode cX6_readPart 118 = .ok (.putfield 93, 3) := by decide +kernel
theorem dX6_readPart_121 : decode cX6_readPart 121 = .ok (.goto 78, 3) := by decide +kernel
theorem dX6_readPart_124 : decode cX6_readPart 124 = .ok (.aload_n 2, 1) := by decide +kernel
theorem dX6_readPart_125 : decode cX6_readPart 125 = .ok (.aload_n 0, 1) := by decide +kernel
theorem dX6_readPart_126 : decode cX6_readPart 126 = .ok (.iconst 3, 1) := by decide +kernel
theorem dX6_readPart_127 : decode cX6_readPart 127 = .ok (.invokevirtual 83, 3) := by decide +kernel
theorem dX6_readPart_130 : decode cX6_readPart 130 = .ok (.putfield 96, 3) := by decide +kernel
theorem dX6_readPart_133 : decode cX6_readPart 133 = .ok (.goto 66, 3) := by decide +kernel
theorem dX6_readPart_136 : decode cX6_readPart 136 = .ok (.aload_n 2, 1) := by decide +kernel
theorem dX6_readPart_137 : decode cX6_readPart 137 = .ok (.aload_n 0, 1) := by decide +kernel
theorem dX6_readPart_138 : decode cX6_readPart 138 = .ok (.getfield 14, 3) := by decide +kernel
theorem dX6_readPart_141 : decode cX6_readPart 141 = .ok (.aload_n 0, 1) := by decide +kernel
theorem dX6_readPart_142 : decode cX6_readPart 142 = .ok (.getfield 27, 3) := by decide +kernel
theorem dX6_readPart_145 : decode cX6_readPart 145 = .ok (.invokevirtual 42, 3) := by decide +kernel
theorem dX6_readPart_148 : decode cX6_readPart 148 = .ok (.bipush 76, 2) := by decide +kernel
theorem dX6_readPart_150 : decode cX6_readPart 150 = .ok (.if_icmp .ne 7, 3) := by decide +kernel
theorem dX6_readPart_153 : decode cX6_readPart 153 = .ok (.iconst 1, 1) := by decide +kernel
theorem dX6_readPart_154 : decode cX6_readPart 154 = .ok (.goto 4, 3) := by decide +kernel
theorem dX6_readPart_157 : decode cX6_readPart 157 = .ok (.iconst 0, 1) := by decide +kernel
theorem dX6_readPart_158 : decode cX6_readPart 158 = .ok (.putfield 99, 3) := by decide +kernel
theorem dX6_readPart_161 : decode cX6_readPart 161 = .ok (.aload_n 0, 1) := by decide +kernel
theorem dX6_readPart_162 : decode cX6_readPart 162 = .ok (.aload_n 2, 1) := by decide +kernel
theorem dX6_readPart_163 : decode cX6_readPart 163 = .ok (.getfield 99, 3) := by decide +kernel
theorem dX6_readPart_166 : decode cX6_readPart 166 = .ok (.ifCond .eq 8, 3) := by decide +kernel
theorem dX6_readPart_169 : decode cX6_readPart 169 = .ok (.bipush 76, 2) := by decide +kernel
theorem dX6_readPart_171 : decode cX6_readPart 171 = .ok (.goto 5, 3) := by decide +kernel
theorem dX6_readPart_174 : decode cX6_readPart 174 = .ok (.bipush 82, 2) := by decide +kernel
theorem dX6_readPart_176 : decode cX6_readPart 176 = .ok (.invokevirtual 102, 3) := by decide +kernel
theorem dX6_readPart_179 : decode cX6_readPart 179 = .ok (.goto 20, 3) := by decide +kernel
theorem dX6_readPart_182 : decode cX6_readPart 182 = .ok (.aload_n 2, 1) := by decide +kernel
theorem dX6_readPart_183 : decode cX6_readPart 183 = .ok (.aload_n 0, 1) := by decide +kernel
theorem dX6_readPart_184 : decode cX6_readPart 184 = .ok (.iconst 1, 1) := by decide +kernel
theorem dX6_readPart_185 : decode cX6_readPart 185 = .ok (.invokevirtual 83, 3) := by decide +kernel
theorem dX6_readPart_188 : decode cX6_readPart 188 = .ok (.putfield 106, 3) := by decide +kernel
theorem dX6_readPart_191 : decode cX6_readPart 191 = .ok (.goto 8, 3) := by decide +kernel
theorem dX6_readPart_194 : decode cX6_readPart 194 = .ok (.aload_n 0, 1) := by decide +kernel
theorem dX6_readPart_195 : decode cX6_readPart 195 = .ok (.iload_n 1, 1) := by decide +kernel
theorem dX6_readPart_196 : decode cX6_readPart 196 = .ok (.invokevirtual 102, 3) := by decide +kernel
theorem dX6_readPart_199 : decode cX6_readPart 199 = .ok (.return_, 1) := by decide +kernel
set_option maxRecDepth 20000 in
theorem ggX6_readNumber_X7_signAt : GoodIn wsX6_readNumber wsX7_signAt := goodIn_ca (goodIn_r _ [8, 9, 10, 11, 12, 7, 13, 14, 20, 21] (by decide +kernel) (by decide +kernel)) (goodIn_sub (fun _ h => List.mem_cons_of_mem _ (List.mem_append_right _ h)) (by decide +kernel))
set_option maxRecDepth 20000 in
theorem gX6_readNumber_X7_signAt : GoodIn wsX6_readNumber (wsV RX6 42 RX7 yX7_signAt wsX7_signAt) := goodIn_app (goodIn_of _ (by decide +kernel)) ggX6_readNumber_X7_signAt
theorem dX6_readNumber_0 : decode cX6_readNumber 0 = .ok (.iconst 0, 1) := by decide +kernel
theorem dX6_readNumber_1 : decode cX6_readNumber 1 = .ok (.istore_n 2, 1) := by decide +kernel
theorem dX6_readNumber_2 : decode cX6_readNumber 2 = .ok (.iconst 0, 1) := by decide +kernel
theorem dX6_readNumber_3 : decode cX6_readNumber 3 = .ok (.istore_n 3, 1) := by decide +kernel
theorem dX6_readNumber_4 : decode cX6_readNumber 4 = .ok (.iconst 0, 1) := by decide +kernel
theorem dX6_readNumber_5 : decode cX6_readNumber 5 = .ok (.istore 4, 2) := by decide +kernel
theorem dX6_readNumber_7 : decode cX6_readNumber 7 = .ok (.iload 4, 2) := by decide +kernel
theorem dX6_readNumber_9 : decode cX6_readNumber 9 = .ok (.iload_n 1, 1) := by decide +kernel
theorem dX6_readNumber_10 : decode cX6_readNumber 10 = .ok (.if_icmp .ge 66, 3) := by decide +kernel
theorem dX6_readNumber_13 : decode cX6_readNumber 13 = .ok (.aload_n 0, 1) := by decide +kernel
theorem dX6_readNumber_14 : decode cX6_readNumber 14 = .ok (.getfield 14, 3) := by decide +kernel
theorem dX6_readNumber_17 : decode cX6_readNumber 17 = .ok (.aload_n 0, 1) := by decide +kernel
theorem dX6_readNumber_18 : decode cX6_readNumber 18 = .ok (.getfield 27, 3) := by decide +kernel
theorem dX6_readNumber_21 : decode cX6_readNumber 21 = .ok (.invokevirtual 42, 3) := by decide +kernel
theorem dX6_readNumber_24 : decode cX6_readNumber 24 = .ok (.istore 5, 2) := by decide +kernel
theorem dX6_readNumber_26 : decode cX6_readNumber 26 = .ok (.iload_n 3, 1) := by decide +kernel
theorem dX6_readNumber_27 : decode cX6_readNumber 27 = .ok (.iload 4, 2) := by decide +kernel
theorem dX6_readNumber_29 : decode cX6_readNumber 29 = .ok (.if_icmp .ne 41, 3) := by decide +kernel
theorem dX6_readNumber_32 : decode cX6_readNumber 32 = .ok (.iload 5, 2) := by decide +kernel
theorem dX6_readNumber_34 : decode cX6_readNumber 34 = .ok (.bipush 48, 2) := by decide +kernel
theorem dX6_readNumber_36 : decode cX6_readNumber 36 = .ok (.if_icmp .lt 34, 3) := by decide +kernel
theorem dX6_readNumber_39 : decode cX6_readNumber 39 = .ok (.iload 5, 2) := by decide +kernel
theorem dX6_readNumber_41 : decode cX6_readNumber 41 = .ok (.bipush 57, 2) := by decide +kernel
theorem dX6_readNumber_43 : decode cX6_readNumber 43 = .ok (.if_icmp .gt 27, 3) := by decide +kernel
theorem dX6_readNumber_46 : decode cX6_readNumber 46 = .ok (.bipush 10, 2) := by decide +kernel
theorem dX6_readNumber_48 : decode cX6_readNumber 48 = .ok (.iload_n 2, 1) := by decide +kernel
theorem dX6_readNumber_49 : decode cX6_readNumber 49 = .ok (.imul, 1) := by decide +kernel
theorem dX6_readNumber_50 : decode cX6_readNumber 50 = .ok (.iload 5, 2) := by decide +kernel
theorem dX6_readNumber_52 : decode cX6_readNumber 52 = .ok (.bipush 48, 2) := by decide +kernel
theorem dX6_readNumber_54 : decode cX6_readNumber 54 = .ok (.isub, 1) := by decide +kernel
theorem dX6_readNumber_55 : decode cX6_readNumber 55 = .ok (.iadd, 1) := by decide +kernel
theorem dX6_readNumber_56 : decode cX6_readNumber 56 = .ok (.istore_n 2, 1) := by decide +kernel
theorem dX6_readNumber_57 : decode cX6_readNumber 57 = .ok (.iinc 3 1, 3) := by decide +kernel
theorem dX6_readNumber_60 : decode cX6_readNumber 60 = .ok (.aload_n 0, 1) := by decide +kernel
theorem dX6_readNumber_61 : decode cX6_readNumber 61 = .ok (.dup, 1) := by decide +kernel
theorem dX6_readNumber_62 : decode cX6_readNumber 62 = .ok (.getfield 27, 3) := by decide +kernel
theorem dX6_readNumber_65 : decode cX6_readNumber 65 = .ok (.iconst 1, 1) := by decide +kernel
theorem dX6_readNumber_66 : decode cX6_readNumber 66 = .ok (.iadd, 1) := by decide +kernel
theorem dX6_readNumber_67 : decode cX6_readNumber 67 = .ok (.putfield 27, 3) := by decide +kernel
theorem dX6_readNumber_70 : decode cX6_readNumber 70 = .ok (.iinc 4 1, 3) := by decide +kernel
theorem dX6_readNumber_73 : decode cX6_readNumber 73 = .ok (.goto (-66), 3) := by decide +kernel
theorem dX6_readNumber_76 : decode cX6_readNumber 76 = .ok (.aload_n 0, 1) := by decide +kernel
theorem dX6_readNumber_77 : decode cX6_readNumber 77 = .ok (.iload_n 3, 1) := by decide +kernel
theorem dX6_readNumber_78 : decode cX6_readNumber 78 = .ok (.ifCond .ne 7, 3) := by decide +kernel
theorem dX6_readNumber_81 : decode cX6_readNumber 81 = .ok (.iconst 1, 1) := by decide +kernel
theorem dX6_readNumber_82 : decode cX6_readNumber 82 = .ok (.goto 4, 3) := by decide +kernel
theorem dX6_readNumber_85 : decode cX6_readNumber 85 = .ok (.iconst 0, 1) := by decide +kernel
theorem dX6_readNumber_86 : decode cX6_readNumber 86 = .ok (.putfield 38, 3) := by decide +kernel
theorem dX6_readNumber_89 : decode cX6_readNumber 89 = .ok (.iload_n 2, 1) := by decide +kernel
theorem dX6_readNumber_90 : decode cX6_readNumber 90 = .ok (.ireturn, 1) := by decide +kernel
set_option maxRecDepth 20000 in
theorem ggX6_readSign_X7_signAt : GoodIn wsX6_readSign wsX7_signAt := goodIn_ca (goodIn_r _ [8, 9, 10, 11, 12, 7, 13, 14, 20, 21] (by decide +kernel) (by decide +kernel)) (goodIn_sub (fun _ h => List.mem_cons_of_mem _ (List.mem_append_right _ h)) (by decide +kernel))
set_option maxRecDepth 20000 in
theorem gX6_readSign_X7_signAt : GoodIn wsX6_readSign (wsV RX6 42 RX7 yX7_signAt wsX7_signAt) := goodIn_app (goodIn_of _ (by decide +kernel)) ggX6_readSign_X7_signAt
theorem dX6_readSign_0 : decode cX6_readSign 0 = .ok (.aload_n 0, 1) := by decide +kernel
theorem dX6_readSign_1 : decode cX6_readSign 1 = .ok (.aload_n 0, 1) := by decide +kernel
theorem dX6_readSign_2 : decode cX6_readSign 2 = .ok (.getfield 14, 3) := by decide +kernel
theorem dX6_readSign_5 : decode cX6_readSign 5 = .ok (.aload_n 0, 1) := by decide +kernel
theorem dX6_readSign_6 : decode cX6_readSign 6 = .ok (.getfield 27, 3) := by decide +kernel
theorem dX6_readSign_9 : decode cX6_readSign 9 = .ok (.invokevirtual 42, 3) := by decide +kernel
theorem dX6_readSign_12 : decode cX6_readSign 12 = .ok (.iload_n 1, 1) := by decide +kernel
theorem dX6_readSign_13 : decode cX6_readSign 13 = .ok (.if_icmp .eq 7, 3) := by decide +kernel
theorem dX6_readSign_16 : decode cX6_readSign 16 = .ok (.iconst 1, 1) := by decide +kernel
theorem dX6_readSign_17 : decode cX6_readSign 17 = .ok (.goto 4, 3) := by decide +kernel
theorem dX6_readSign_20 : decode cX6_readSign 20 = .ok (.iconst 0, 1) := by decide +kernel
theorem dX6_readSign_21 : decode cX6_readSign 21 = .ok (.putfield 38, 3) := by decide +kernel
theorem dX6_readSign_24 : decode cX6_readSign 24 = .ok (.aload_n 0, 1) := by decide +kernel
theorem dX6_readSign_25 : decode cX6_readSign 25 = .ok (.dup, 1) := by decide +kernel
theorem dX6_readSign_26 : decode cX6_readSign 26 = .ok (.getfield 27, 3) := by decide +kernel
theorem dX6_readSign_29 : decode cX6_readSign 29 = .ok (.aload_n 0, 1) := by decide +kernel
theorem dX6_readSign_30 : decode cX6_readSign 30 = .ok (.getfield 38, 3) := by decide +kernel
theorem dX6_readSign_33 : decode cX6_readSign 33 = .ok (.ifCond .eq 7, 3) := by decide +kernel
theorem dX6_readSign_36 : decode cX6_readSign 36 = .ok (.iconst 0, 1) := by decide +kernel
theorem dX6_readSign_37 : decode cX6_readSign 37 = .ok (.goto 4, 3) := by decide +kernel
theorem dX6_readSign_40 : decode cX6_readSign 40 = .ok (.iconst 1, 1) := by decide +kernel
theorem dX6_readSign_41 : decode cX6_readSign 41 = .ok (.iadd, 1) := by decide +kernel
theorem dX6_readSign_42 : decode cX6_readSign 42 = .ok (.putfield 27, 3) := by decide +kernel
theorem dX6_readSign_45 : decode cX6_readSign 45 = .ok (.return_, 1) := by decide +kernel
theorem dX7_init_0 : decode cX7_init 0 = .ok (.aload_n 0, 1) := by decide +kernel
theorem dX7_init_1 : decode cX7_init 1 = .ok (.invokespecial 1, 3) := by decide +kernel
theorem dX7_init_4 : decode cX7_init 4 = .ok (.aload_n 0, 1) := by decide +kernel
theorem dX7_init_5 : decode cX7_init 5 = .ok (.aload_n 1, 1) := by decide +kernel
theorem dX7_init_6 : decode cX7_init 6 = .ok (.putfield 7, 3) := by decide +kernel
theorem dX7_init_9 : decode cX7_init 9 = .ok (.return_, 1) := by decide +kernel
theorem dX7_isFull_0 : decode cX7_isFull 0 = .ok (.aload_n 0, 1) := by decide +kernel
theorem dX7_isFull_1 : decode cX7_isFull 1 = .ok (.getfield 13, 3) := by decide +kernel
theorem dX7_isFull_4 : decode cX7_isFull 4 = .ok (.aload_n 0, 1) := by decide +kernel
theorem dX7_isFull_5 : decode cX7_isFull 5 = .ok (.getfield 7, 3) := by decide +kernel
theorem dX7_isFull_8 : decode cX7_isFull 8 = .ok (.arraylength, 1) := by decide +kernel
theorem dX7_isFull_9 : decode cX7_isFull 9 = .ok (.if_icmp .lt 7, 3) := by decide +kernel
theorem dX7_isFull_12 : decode cX7_isFull 12 = .ok (.iconst 1, 1) := by decide +kernel
theorem dX7_isFull_13 : decode cX7_isFull 13 = .ok (.goto 4, 3) := by decide +kernel
theorem dX7_isFull_16 : decode cX7_isFull 16 = .ok (.iconst 0, 1) := by decide +kernel
theorem dX7_isFull_17 : decode cX7_isFull 17 = .ok (.ireturn, 1) := by decide +kernel
theorem dX7_append_0 : decode cX7_append 0 = .ok (.aload_n 0, 1) := by decide +kernel
theorem dX7_append_1 : decode cX7_append 1 = .ok (.getfield 13, 3) := by decide +kernel
theorem dX7_append_4 : decode cX7_append 4 = .ok (.aload_n 0, 1) := by decide +kernel
theorem dX7_append_5 : decode cX7_append 5 = .ok (.getfield 7, 3) := by decide +kernel
theorem dX7_append_8 : decode cX7_append 8 = .ok (.arraylength, 1) := by decide +kernel
theorem dX7_append_9 : decode cX7_append 9 = .ok (.if_icmp .ge 23, 3) := by decide +kernel
theorem dX7_append_12 : decode cX7_append 12 = .ok (.aload_n 0, 1) := by decide +kernel
theorem dX7_append_13 : decode cX7_append 13 = .ok (.getfield 7, 3) := by decide +kernel
theorem dX7_append_16 : decode cX7_append 16 = .ok (.aload_n 0, 1) := by decide +kernel
theorem dX7_append_17 : decode cX7_append 17 = .ok (.getfield 13, 3) := by decide +kernel
theorem dX7_append_20 : decode cX7_append 20 = .ok (.iload_n 1, 1) := by decide +kernel
theorem dX7_append_21 : decode cX7_append 21 = .ok (.castore, 1) := by decide +kernel
theorem dX7_append_22 : decode cX7_append 22 = .ok (.aload_n 0, 1) := by decide +kernel
theorem dX7_append_23 : decode cX7_append 23 = .ok (.dup, 1) := by decide +kernel
theorem dX7_append_24 : decode cX7_append 24 = .ok (.getfield 13, 3) := by decide +kernel
theorem dX7_append_27 : decode cX7_append 27 = .ok (.iconst 1, 1) := by decide +kernel
theorem dX7_append_28 : decode cX7_append 28 = .ok (.iadd, 1) := by decide +kernel
theorem dX7_append_29 : decode cX7_append 29 = .ok (.putfield 13, 3) := by decide +kernel
theorem dX7_append_32 : decode cX7_append 32 = .ok (.return_, 1) := by decide +kernel
theorem dX7_reaches_0 : decode cX7_reaches 0 = .ok (.iload_n 1, 1) := by decide +kernel
theorem dX7_reaches_1 : decode cX7_reaches 1 = .ok (.ifCond .lt 24, 3) := by decide +kernel
theorem dX7_reaches_4 : decode cX7_reaches 4 = .ok (.iload_n 1, 1) := by decide +kernel
theorem dX7_reaches_5 : decode cX7_reaches 5 = .ok (.aload_n 0, 1) := by decide +kernel
theorem dX7_reaches_6 : decode cX7_reaches 6 = .ok (.getfield 13, 3) := by decide +kernel
theorem dX7_reaches_9 : decode cX7_reaches 9 = .ok (.if_icmp .ge 16, 3) := by decide +kernel
theorem dX7_reaches_12 : decode cX7_reaches 12 = .ok (.iload_n 1, 1) := by decide +kernel
theorem dX7_reaches_13 : decode cX7_reaches 13 = .ok (.aload_n 0, 1) := by decide +kernel
theorem dX7_reaches_14 : decode cX7_reaches 14 = .ok (.getfield 7, 3) := by decide +kernel
theorem dX7_reaches_17 : decode cX7_reaches 17 = .ok (.arraylength, 1) := by decide +kernel
theorem dX7_reaches_18 : decode cX7_reaches 18 = .ok (.if_icmp .ge 7, 3) := by decide +kernel
theorem dX7_reaches_21 : decode cX7_reaches 21 = .ok (.iconst 1, 1) := by decide +kernel
theorem dX7_reaches_22 : decode cX7_reaches 22 = .ok (.goto 4, 3) := by decide +kernel
theorem dX7_reaches_25 : decode cX7_reaches 25 = .ok (.iconst 0, 1) := by decide +kernel
theorem dX7_reaches_26 : decode cX7_reaches 26 = .ok (.ireturn, 1) := by decide +kernel
set_option maxRecDepth 20000 in
theorem ggX7_signAt_X7_reaches : GoodIn wsX7_signAt wsX7_reaches := goodIn_r _ [6, 7, 1, 8, 9] (by decide +kernel) (by decide +kernel)
set_option maxRecDepth 20000 in
theorem gX7_signAt_X7_reaches : GoodIn wsX7_signAt (wsV RX7 17 RX7 yX7_reaches wsX7_reaches) := goodIn_app (goodIn_of _ (by decide +kernel)) ggX7_signAt_X7_reaches
theorem dX7_signAt_0 : decode cX7_signAt 0 = .ok (.aload_n 0, 1) := by decide +kernel
theorem dX7_signAt_1 : decode cX7_signAt 1 = .ok (.iload_n 1, 1) := by decide +kernel
theorem dX7_signAt_2 : decode cX7_signAt 2 = .ok (.invokevirtual 17, 3) := by decide +kernel
theorem dX7_signAt_5 : decode cX7_signAt 5 = .ok (.ifCond .eq 12, 3) := by decide +kernel
theorem dX7_signAt_8 : decode cX7_signAt 8 = .ok (.aload_n 0, 1) := by decide +kernel
theorem dX7_signAt_9 : decode cX7_signAt 9 = .ok (.getfield 7, 3) := by decide +kernel
theorem dX7_signAt_12 : decode cX7_signAt 12 = .ok (.iload_n 1, 1) := by decide +kernel
theorem dX7_signAt_13 : decode cX7_signAt 13 = .ok (.caload, 1) := by decide +kernel
theorem dX7_signAt_14 : decode cX7_signAt 14 = .ok (.goto 4, 3) := by decide +kernel
theorem dX7_signAt_17 : decode cX7_signAt 17 = .ok (.iconst 0, 1) := by decide +kernel
theorem dX7_signAt_18 : decode cX7_signAt 18 = .ok (.ireturn, 1) := by decide +kernel
theorem dX7_clear_0 : decode cX7_clear 0 = .ok (.aload_n 0, 1) := by decide +kernel
theorem dX7_clear_1 : decode cX7_clear 1 = .ok (.iconst 0, 1) := by decide +kernel
theorem dX7_clear_2 : decode cX7_clear 2 = .ok (.putfield 13, 3) := by decide +kernel
theorem dX7_clear_5 : decode cX7_clear 5 = .ok (.return_, 1) := by decide +kernel
theorem dX8_init_0 : decode cX8_init 0 = .ok (.aload_n 0, 1) := by decide +kernel
theorem dX8_init_1 : decode cX8_init 1 = .ok (.invokespecial 1, 3) := by decide +kernel
theorem dX8_init_4 : decode cX8_init 4 = .ok (.return_, 1) := by decide +kernel
theorem dX8_copyFrom_0 : decode cX8_copyFrom 0 = .ok (.aload_n 0, 1) := by decide +kernel
theorem dX8_copyFrom_1 : decode cX8_copyFrom 1 = .ok (.aload_n 1, 1) := by decide +kernel
theorem dX8_copyFrom_2 : decode cX8_copyFrom 2 = .ok (.getfield 7, 3) := by decide +kernel
theorem dX8_copyFrom_5 : decode cX8_copyFrom 5 = .ok (.putfield 7, 3) := by decide +kernel
theorem dX8_copyFrom_8 : decode cX8_copyFrom 8 = .ok (.aload_n 0, 1) := by decide +kernel
theorem dX8_copyFrom_9 : decode cX8_copyFrom 9 = .ok (.aload_n 1, 1) := by decide +kernel
theorem dX8_copyFrom_10 : decode cX8_copyFrom 10 = .ok (.getfield 13, 3) := by decide +kernel
theorem dX8_copyFrom_13 : decode cX8_copyFrom 13 = .ok (.putfield 13, 3) := by decide +kernel
theorem dX8_copyFrom_16 : decode cX8_copyFrom 16 = .ok (.aload_n 0, 1) := by decide +kernel
theorem dX8_copyFrom_17 : decode cX8_copyFrom 17 = .ok (.aload_n 1, 1) := by decide +kernel
theorem dX8_copyFrom_18 : decode cX8_copyFrom 18 = .ok (.getfield 17, 3) := by decide +kernel
theorem dX8_copyFrom_21 : decode cX8_copyFrom 21 = .ok (.putfield 17, 3) := by decide +kernel
theorem dX8_copyFrom_24 : decode cX8_copyFrom 24 = .ok (.return_, 1) := by decide +kernel
