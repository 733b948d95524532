set_option maxRecDepth 20000 in
theorem ggX0_init_X8_init : GoodIn wsX0_init wsX8_init := goodIn_r _ [13, 14, 2, 3] (by decide +kernel) (by decide +kernel)
set_option maxRecDepth 20000 in
theorem gX0_init_X8_init_n17 : GoodIn wsX0_init (wsX8_init) := ggX0_init_X8_init
set_option maxRecDepth 20000 in
theorem ggX0_init_X3_init : GoodIn wsX0_init wsX3_init := goodIn_r _ [16, 17, 2, 3] (by decide +kernel) (by decide +kernel)
set_option maxRecDepth 20000 in
theorem gX0_init_X3_init_n24 : GoodIn wsX0_init (wsX3_init) := ggX0_init_X3_init
theorem dX0_init_0 : decode cX0_init 0 = .ok (.aload_n 0, 1) := by decide +kernel
theorem dX0_init_1 : decode cX0_init 1 = .ok (.invokespecial 3, 3) := by decide +kernel
theorem dX0_init_4 : decode cX0_init 4 = .ok (.aload_n 0, 1) := by decide +kernel
theorem dX0_init_5 : decode cX0_init 5 = .ok (.bipush 6, 2) := by decide +kernel
theorem dX0_init_7 : decode cX0_init 7 = .ok (.anewarray 9, 3) := by decide +kernel
theorem dX0_init_10 : decode cX0_init 10 = .ok (.putfield 11, 3) := by decide +kernel
theorem dX0_init_13 : decode cX0_init 13 = .ok (.iconst 0, 1) := by decide +kernel
theorem dX0_init_14 : decode cX0_init 14 = .ok (.istore_n 1, 1) := by decide +kernel
theorem dX0_init_15 : decode cX0_init 15 = .ok (.iload_n 1, 1) := by decide +kernel
theorem dX0_init_16 : decode cX0_init 16 = .ok (.aload_n 0, 1) := by decide +kernel
theorem dX0_init_17 : decode cX0_init 17 = .ok (.getfield 11, 3) := by decide +kernel
theorem dX0_init_20 : decode cX0_init 20 = .ok (.arraylength, 1) := by decide +kernel
theorem dX0_init_21 : decode cX0_init 21 = .ok (.if_icmp .ge 22, 3) := by decide +kernel
theorem dX0_init_24 : decode cX0_init 24 = .ok (.aload_n 0, 1) := by decide +kernel
theorem dX0_init_25 : decode cX0_init 25 = .ok (.getfield 11, 3) := by decide +kernel
theorem dX0_init_28 : decode cX0_init 28 = .ok (.iload_n 1, 1) := by decide +kernel
theorem dX0_init_29 : decode cX0_init 29 = .ok (.new 9, 3) := by decide +kernel
theorem dX0_init_32 : decode cX0_init 32 = .ok (.dup, 1) := by decide +kernel
theorem dX0_init_33 : decode cX0_init 33 = .ok (.invokespecial 17, 3) := by decide +kernel
theorem dX0_init_36 : decode cX0_init 36 = .ok (.aastore, 1) := by decide +kernel
theorem dX0_init_37 : decode cX0_init 37 = .ok (.iinc 1 1, 3) := by decide +kernel
theorem dX0_init_40 : decode cX0_init 40 = .ok (.goto (-25), 3) := by decide +kernel
theorem dX0_init_43 : decode cX0_init 43 = .ok (.aload_n 0, 1) := by decide +kernel
theorem dX0_init_44 : decode cX0_init 44 = .ok (.bipush 30, 2) := by decide +kernel
theorem dX0_init_46 : decode cX0_init 46 = .ok (.anewarray 18, 3) := by decide +kernel
theorem dX0_init_49 : decode cX0_init 49 = .ok (.putfield 20, 3) := by decide +kernel
theorem dX0_init_52 : decode cX0_init 52 = .ok (.iconst 0, 1) := by decide +kernel
theorem dX0_init_53 : decode cX0_init 53 = .ok (.istore_n 1, 1) := by decide +kernel
theorem dX0_init_54 : decode cX0_init 54 = .ok (.iload_n 1, 1) := by decide +kernel
theorem dX0_init_55 : decode cX0_init 55 = .ok (.aload_n 0, 1) := by decide +kernel
theorem dX0_init_56 : decode cX0_init 56 = .ok (.getfield 20, 3) := by decide +kernel
theorem dX0_init_59 : decode cX0_init 59 = .ok (.arraylength, 1) := by decide +kernel
theorem dX0_init_60 : decode cX0_init 60 = .ok (.if_icmp .ge 22, 3) := by decide +kernel
theorem dX0_init_63 : decode cX0_init 63 = .ok (.aload_n 0, 1) := by decide +kernel
theorem dX0_init_64 : decode cX0_init 64 = .ok (.getfield 20, 3) := by decide +kernel
theorem dX0_init_67 : decode cX0_init 67 = .ok (.iload_n 1, 1) := by decide +kernel
theorem dX0_init_68 : decode cX0_init 68 = .ok (.new 18, 3) := by decide +kernel
theorem dX0_init_71 : decode cX0_init 71 = .ok (.dup, 1) := by decide +kernel
theorem dX0_init_72 : decode cX0_init 72 = .ok (.invokespecial 24, 3) := by decide +kernel
theorem dX0_init_75 : decode cX0_init 75 = .ok (.aastore, 1) := by decide +kernel
theorem dX0_init_76 : decode cX0_init 76 = .ok (.iinc 1 1, 3) := by decide +kernel
theorem dX0_init_79 : decode cX0_init 79 = .ok (.goto (-25), 3) := by decide +kernel
theorem dX0_init_82 : decode cX0_init 82 = .ok (.return_, 1) := by decide +kernel
set_option maxRecDepth 20000 in
theorem ggX0_copyFrom_X8_copyFrom : GoodIn wsX0_copyFrom wsX8_copyFrom := goodIn_r _ [12, 13, 14, 15, 38, 39, 40] (by decide +kernel) (by decide +kernel)
set_option maxRecDepth 20000 in
theorem gX0_copyFrom_X8_copyFrom : GoodIn wsX0_copyFrom (wsV RX0 25 RX8 yX8_copyFrom wsX8_copyFrom) := goodIn_app (goodIn_of _ (by decide +kernel)) ggX0_copyFrom_X8_copyFrom
set_option maxRecDepth 20000 in
theorem ggX0_copyFrom_X3_copyFrom : GoodIn wsX0_copyFrom wsX3_copyFrom := goodIn_r _ [20, 21, 22, 23, 24, 25, 26, 27, 28, 29, 30, 41, 42, 43, 44, 45, 46, 47, 48, 49, 50] (by decide +kernel) (by decide +kernel)
set_option maxRecDepth 20000 in
theorem gX0_copyFrom_X3_copyFrom : GoodIn wsX0_copyFrom (wsV RX0 29 RX3 yX3_copyFrom wsX3_copyFrom) := goodIn_app (goodIn_of _ (by decide +kernel)) ggX0_copyFrom_X3_copyFrom
theorem dX0_copyFrom_0 : decode cX0_copyFrom 0 = .ok (.iconst 0, 1) := by decide +kernel
theorem dX0_copyFrom_1 : decode cX0_copyFrom 1 = .ok (.istore_n 2, 1) := by decide +kernel
theorem dX0_copyFrom_2 : decode cX0_copyFrom 2 = .ok (.iload_n 2, 1) := by decide +kernel
theorem dX0_copyFrom_3 : decode cX0_copyFrom 3 = .ok (.aload_n 0, 1) := by decide +kernel
theorem dX0_copyFrom_4 : decode cX0_copyFrom 4 = .ok (.getfield 11, 3) := by decide +kernel
theorem dX0_copyFrom_7 : decode cX0_copyFrom 7 = .ok (.arraylength, 1) := by decide +kernel
theorem dX0_copyFrom_8 : decode cX0_copyFrom 8 = .ok (.if_icmp .ge 33, 3) := by decide +kernel
theorem dX0_copyFrom_11 : decode cX0_copyFrom 11 = .ok (.iload_n 2, 1) := by decide +kernel
theorem dX0_copyFrom_12 : decode cX0_copyFrom 12 = .ok (.aload_n 1, 1) := by decide +kernel
theorem dX0_copyFrom_13 : decode cX0_copyFrom 13 = .ok (.getfield 11, 3) := by decide +kernel
theorem dX0_copyFrom_16 : decode cX0_copyFrom 16 = .ok (.arraylength, 1) := by decide +kernel
theorem dX0_copyFrom_17 : decode cX0_copyFrom 17 = .ok (.if_icmp .ge 24, 3) := by decide +kernel
theorem dX0_copyFrom_20 : decode cX0_copyFrom 20 = .ok (.aload_n 0, 1) := by decide +kernel
theorem dX0_copyFrom_21 : decode cX0_copyFrom 21 = .ok (.getfield 11, 3) := by decide +kernel
theorem dX0_copyFrom_24 : decode cX0_copyFrom 24 = .ok (.iload_n 2, 1) := by decide +kernel
theorem dX0_copyFrom_25 : decode cX0_copyFrom 25 = .ok (.aaload, 1) := by decide +kernel
theorem dX0_copyFrom_26 : decode cX0_copyFrom 26 = .ok (.aload_n 1, 1) := by decide +kernel
theorem dX0_copyFrom_27 : decode cX0_copyFrom 27 = .ok (.getfield 11, 3) := by decide +kernel
theorem dX0_copyFrom_30 : decode cX0_copyFrom 30 = .ok (.iload_n 2, 1) := by decide +kernel
theorem dX0_copyFrom_31 : decode cX0_copyFrom 31 = .ok (.aaload, 1) := by decide +kernel
theorem dX0_copyFrom_32 : decode cX0_copyFrom 32 = .ok (.invokevirtual 25, 3) := by decide +kernel
theorem dX0_copyFrom_35 : decode cX0_copyFrom 35 = .ok (.iinc 2 1, 3) := by decide +kernel
theorem dX0_copyFrom_38 : decode cX0_copyFrom 38 = .ok (.goto (-36), 3) := by decide +kernel
theorem dX0_copyFrom_41 : decode cX0_copyFrom 41 = .ok (.iconst 0, 1) := by decide +kernel
theorem dX0_copyFrom_42 : decode cX0_copyFrom 42 = .ok (.istore_n 2, 1) := by decide +kernel
theorem dX0_copyFrom_43 : decode cX0_copyFrom 43 = .ok (.iload_n 2, 1) := by decide +kernel
theorem dX0_copyFrom_44 : decode cX0_copyFrom 44 = .ok (.aload_n 0, 1) := by decide +kernel
theorem dX0_copyFrom_45 : decode cX0_copyFrom 45 = .ok (.getfield 20, 3) := by decide +kernel
theorem dX0_copyFrom_48 : decode cX0_copyFrom 48 = .ok (.arraylength, 1) := by decide +kernel
theorem dX0_copyFrom_49 : decode cX0_copyFrom 49 = .ok (.if_icmp .ge 33, 3) := by decide +kernel
theorem dX0_copyFrom_52 : decode cX0_copyFrom 52 = .ok (.iload_n 2, 1) := by decide +kernel
theorem dX0_copyFrom_53 : decode cX0_copyFrom 53 = .ok (.aload_n 1, 1) := by decide +kernel
theorem dX0_copyFrom_54 : decode cX0_copyFrom 54 = .ok (.getfield 20, 3) := by decide +kernel
theorem dX0_copyFrom_57 : decode cX0_copyFrom 57 = .ok (.arraylength, 1) := by decide +kernel
theorem dX0_copyFrom_58 : decode cX0_copyFrom 58 = .ok (.if_icmp .ge 24, 3) := by decide +kernel
theorem dX0_copyFrom_61 : decode cX0_copyFrom 61 = .ok (.aload_n 0, 1) := by decide +kernel
theorem dX0_copyFrom_62 : decode cX0_copyFrom 62 = .ok (.getfield 20, 3) := by decide +kernel
theorem dX0_copyFrom_65 : decode cX0_copyFrom 65 = .ok (.iload_n 2, 1) := by decide +kernel
theorem dX0_copyFrom_66 : decode cX0_copyFrom 66 = .ok (.aaload, 1) := by decide +kernel
theorem dX0_copyFrom_67 : decode cX0_copyFrom 67 = .ok (.aload_n 1, 1) := by decide +kernel
theorem dX0_copyFrom_68 : decode cX0_copyFrom 68 = .ok (.getfield 20, 3) := by decide +kernel
theorem dX0_copyFrom_71 : decode cX0_copyFrom 71 = .ok (.iload_n 2, 1) := by decide +kernel
theorem dX0_copyFrom_72 : decode cX0_copyFrom 72 = .ok (.aaload, 1) := by decide +kernel
theorem dX0_copyFrom_73 : decode cX0_copyFrom 73 = .ok (.invokevirtual 29, 3) := by decide +kernel
theorem dX0_copyFrom_76 : decode cX0_copyFrom 76 = .ok (.iinc 2 1, 3) := by decide +kernel
theorem dX0_copyFrom_79 : decode cX0_copyFrom 79 = .ok (.goto (-36), 3) := by decide +kernel
theorem dX0_copyFrom_82 : decode cX0_copyFrom 82 = .ok (.aload_n 0, 1) := by decide +kernel
theorem dX0_copyFrom_83 : decode cX0_copyFrom 83 = .ok (.aload_n 1, 1) := by decide +kernel
theorem dX0_copyFrom_84 : decode cX0_copyFrom 84 = .ok (.getfield 32, 3) := by decide +kernel
theorem dX0_copyFrom_87 : decode cX0_copyFrom 87 = .ok (.putfield 32, 3) := by decide +kernel
theorem dX0_copyFrom_90 : decode cX0_copyFrom 90 = .ok (.aload_n 0, 1) := by decide +kernel
theorem dX0_copyFrom_91 : decode cX0_copyFrom 91 = .ok (.aload_n 1, 1) := by decide +kernel
theorem dX0_copyFrom_92 : decode cX0_copyFrom 92 = .ok (.getfield 36, 3) := by decide +kernel
theorem dX0_copyFrom_95 : decode cX0_copyFrom 95 = .ok (.putfield 36, 3) := by decide +kernel
theorem dX0_copyFrom_98 : decode cX0_copyFrom 98 = .ok (.aload_n 0, 1) := by decide +kernel
theorem dX0_copyFrom_99 : decode cX0_copyFrom 99 = .ok (.aload_n 1, 1) := by decide +kernel
theorem dX0_copyFrom_100 : decode cX0_copyFrom 100 = .ok (.getfield 39, 3) := by decide +kernel
theorem dX0_copyFrom_103 : decode cX0_copyFrom 103 = .ok (.putfield 39, 3) := by decide +kernel
theorem dX0_copyFrom_106 : decode cX0_copyFrom 106 = .ok (.aload_n 0, 1) := by decide +kernel
theorem dX0_copyFrom_107 : decode cX0_copyFrom 107 = .ok (.aload_n 1, 1) := by decide +kernel
theorem dX0_copyFrom_108 : decode cX0_copyFrom 108 = .ok (.getfield 42, 3) := by decide +kernel
theorem dX0_copyFrom_111 : decode cX0_copyFrom 111 = .ok (.putfield 42, 3) := by decide +kernel
theorem dX0_copyFrom_114 : decode cX0_copyFrom 114 = .ok (.aload_n 0, 1) := by decide +kernel
theorem dX0_copyFrom_115 : decode cX0_copyFrom 115 = .ok (.aload_n 1, 1) := by decide +kernel
theorem dX0_copyFrom_116 : decode cX0_copyFrom 116 = .ok (.getfield 45, 3) := by decide +kernel
theorem dX0_copyFrom_119 : decode cX0_copyFrom 119 = .ok (.putfield 45, 3) := by decide +kernel
theorem dX0_copyFrom_122 : decode cX0_copyFrom 122 = .ok (.return_, 1) := by decide +kernel
theorem dX0_findTrack_0 : decode cX0_findTrack 0 = .ok (.aload_n 0, 1) := by decide +kernel
theorem dX0_findTrack_1 : decode cX0_findTrack 1 = .ok (.getfield 11, 3) := by decide +kernel
theorem dX0_findTrack_4 : decode cX0_findTrack 4 = .ok (.astore_n 2, 1) := by decide +kernel
theorem dX0_findTrack_5 : decode cX0_findTrack 5 = .ok (.aload_n 2, 1) := by decide +kernel
theorem dX0_findTrack_6 : decode cX0_findTrack 6 = .ok (.arraylength, 1) := by decide +kernel
theorem dX0_findTrack_7 : decode cX0_findTrack 7 = .ok (.istore_n 3, 1) := by decide +kernel
theorem dX0_findTrack_8 : decode cX0_findTrack 8 = .ok (.iconst 0, 1) := by decide +kernel
theorem dX0_findTrack_9 : decode cX0_findTrack 9 = .ok (.istore 4, 2) := by decide +kernel
theorem dX0_findTrack_11 : decode cX0_findTrack 11 = .ok (.iload 4, 2) := by decide +kernel
theorem dX0_findTrack_13 : decode cX0_findTrack 13 = .ok (.iload_n 3, 1) := by decide +kernel
theorem dX0_findTrack_14 : decode cX0_findTrack 14 = .ok (.if_icmp .ge 35, 3) := by decide +kernel
theorem dX0_findTrack_17 : decode cX0_findTrack 17 = .ok (.aload_n 2, 1) := by decide +kernel
theorem dX0_findTrack_18 : decode cX0_findTrack 18 = .ok (.iload 4, 2) := by decide +kernel
theorem dX0_findTrack_20 : decode cX0_findTrack 20 = .ok (.aaload, 1) := by decide +kernel
theorem dX0_findTrack_21 : decode cX0_findTrack 21 = .ok (.astore 5, 2) := by decide +kernel
theorem dX0_findTrack_23 : decode cX0_findTrack 23 = .ok (.aload 5, 2) := by decide +kernel
theorem dX0_findTrack_25 : decode cX0_findTrack 25 = .ok (.getfield 48, 3) := by decide +kernel
theorem dX0_findTrack_28 : decode cX0_findTrack 28 = .ok (.ifCond .eq 15, 3) := by decide +kernel
theorem dX0_findTrack_31 : decode cX0_findTrack 31 = .ok (.aload 5, 2) := by decide +kernel
theorem dX0_findTrack_33 : decode cX0_findTrack 33 = .ok (.getfield 52, 3) := by decide +kernel
theorem dX0_findTrack_36 : decode cX0_findTrack 36 = .ok (.iload_n 1, 1) := by decide +kernel
theorem dX0_findTrack_37 : decode cX0_findTrack 37 = .ok (.if_icmp .ne 6, 3) := by decide +kernel
theorem dX0_findTrack_40 : decode cX0_findTrack 40 = .ok (.aload 5, 2) := by decide +kernel
theorem dX0_findTrack_42 : decode cX0_findTrack 42 = .ok (.areturn, 1) := by decide +kernel
theorem dX0_findTrack_43 : decode cX0_findTrack 43 = .ok (.iinc 4 1, 3) := by decide +kernel
theorem dX0_findTrack_46 : decode cX0_findTrack 46 = .ok (.goto (-35), 3) := by decide +kernel
theorem dX0_findTrack_49 : decode cX0_findTrack 49 = .ok (.aconst_null, 1) := by decide +kernel
theorem dX0_findTrack_50 : decode cX0_findTrack 50 = .ok (.areturn, 1) := by decide +kernel
theorem dX0_findPrint_0 : decode cX0_findPrint 0 = .ok (.aload_n 0, 1) := by decide +kernel
theorem dX0_findPrint_1 : decode cX0_findPrint 1 = .ok (.getfield 20, 3) := by decide +kernel
theorem dX0_findPrint_4 : decode cX0_findPrint 4 = .ok (.astore_n 2, 1) := by decide +kernel
theorem dX0_findPrint_5 : decode cX0_findPrint 5 = .ok (.aload_n 2, 1) := by decide +kernel
theorem dX0_findPrint_6 : decode cX0_findPrint 6 = .ok (.arraylength, 1) := by decide +kernel
theorem dX0_findPrint_7 : decode cX0_findPrint 7 = .ok (.istore_n 3, 1) := by decide +kernel
theorem dX0_findPrint_8 : decode cX0_findPrint 8 = .ok (.iconst 0, 1) := by decide +kernel
theorem dX0_findPrint_9 : decode cX0_findPrint 9 = .ok (.istore 4, 2) := by decide +kernel
theorem dX0_findPrint_11 : decode cX0_findPrint 11 = .ok (.iload 4, 2) := by decide +kernel
theorem dX0_findPrint_13 : decode cX0_findPrint 13 = .ok (.iload_n 3, 1) := by decide +kernel
theorem dX0_findPrint_14 : decode cX0_findPrint 14 = .ok (.if_icmp .ge 35, 3) := by decide +kernel
theorem dX0_findPrint_17 : decode cX0_findPrint 17 = .ok (.aload_n 2, 1) := by decide +kernel
theorem dX0_findPrint_18 : decode cX0_findPrint 18 = .ok (.iload 4, 2) := by decide +kernel
theorem dX0_findPrint_20 : decode cX0_findPrint 20 = .ok (.aaload, 1) := by decide +kernel
theorem dX0_findPrint_21 : decode cX0_findPrint 21 = .ok (.astore 5, 2) := by decide +kernel
theorem dX0_findPrint_23 : decode cX0_findPrint 23 = .ok (.aload 5, 2) := by decide +kernel
theorem dX0_findPrint_25 : decode cX0_findPrint 25 = .ok (.getfield 55, 3) := by decide +kernel
theorem dX0_findPrint_28 : decode cX0_findPrint 28 = .ok (.ifCond .eq 15, 3) := by decide +kernel
theorem dX0_findPrint_31 : decode cX0_findPrint 31 = .ok (.aload 5, 2) := by decide +kernel
theorem dX0_findPrint_33 : decode cX0_findPrint 33 = .ok (.getfield 56, 3) := by decide +kernel
theorem dX0_findPrint_36 : decode cX0_findPrint 36 = .ok (.iload_n 1, 1) := by decide +kernel
theorem dX0_findPrint_37 : decode cX0_findPrint 37 = .ok (.if_icmp .ne 6, 3) := by decide +kernel
theorem dX0_findPrint_40 : decode cX0_findPrint 40 = .ok (.aload 5, 2) := by decide +kernel
theorem dX0_findPrint_42 : decode cX0_findPrint 42 = .ok (.areturn, 1) := by decide +kernel
theorem dX0_findPrint_43 : decode cX0_findPrint 43 = .ok (.iinc 4 1, 3) := by decide +kernel
theorem dX0_findPrint_46 : decode cX0_findPrint 46 = .ok (.goto (-35), 3) := by decide +kernel
theorem dX0_findPrint_49 : decode cX0_findPrint 49 = .ok (.aconst_null, 1) := by decide +kernel
theorem dX0_findPrint_50 : decode cX0_findPrint 50 = .ok (.areturn, 1) := by decide +kernel
theorem dX0_countTracks_0 : decode cX0_countTracks 0 = .ok (.iconst 0, 1) := by decide +kernel
theorem dX0_countTracks_1 : decode cX0_countTracks 1 = .ok (.istore_n 1, 1) := by decide +kernel
theorem dX0_countTracks_2 : decode cX0_countTracks 2 = .ok (.aload_n 0, 1) := by decide +kernel
theorem dX0_countTracks_3 : decode cX0_countTracks 3 = .ok (.getfield 11, 3) := by decide +kernel
theorem dX0_countTracks_6 : decode cX0_countTracks 6 = .ok (.astore_n 2, 1) := by decide +kernel
theorem dX0_countTracks_7 : decode cX0_countTracks 7 = .ok (.aload_n 2, 1) := by decide +kernel
theorem dX0_countTracks_8 : decode cX0_countTracks 8 = .ok (.arraylength, 1) := by decide +kernel
theorem dX0_countTracks_9 : decode cX0_countTracks 9 = .ok (.istore_n 3, 1) := by decide +kernel
theorem dX0_countTracks_10 : decode cX0_countTracks 10 = .ok (.iconst 0, 1) := by decide +kernel
theorem dX0_countTracks_11 : decode cX0_countTracks 11 = .ok (.istore 4, 2) := by decide +kernel
theorem dX0_countTracks_13 : decode cX0_countTracks 13 = .ok (.iload 4, 2) := by decide +kernel
theorem dX0_countTracks_15 : decode cX0_countTracks 15 = .ok (.iload_n 3, 1) := by decide +kernel
theorem dX0_countTracks_16 : decode cX0_countTracks 16 = .ok (.if_icmp .ge 31, 3) := by decide +kernel
theorem dX0_countTracks_19 : decode cX0_countTracks 19 = .ok (.aload_n 2, 1) := by decide +kernel
theorem dX0_countTracks_20 : decode cX0_countTracks 20 = .ok (.iload 4, 2) := by decide +kernel
theorem dX0_countTracks_22 : decode cX0_countTracks 22 = .ok (.aaload, 1) := by decide +kernel
theorem dX0_countTracks_23 : decode cX0_countTracks 23 = .ok (.astore 5, 2) := by decide +kernel
theorem dX0_countTracks_25 : decode cX0_countTracks 25 = .ok (.iload_n 1, 1) := by decide +kernel
theorem dX0_countTracks_26 : decode cX0_countTracks 26 = .ok (.aload 5, 2) := by decide +kernel
theorem dX0_countTracks_28 : decode cX0_countTracks 28 = .ok (.getfield 48, 3) := by decide +kernel
theorem dX0_countTracks_31 : decode cX0_countTracks 31 = .ok (.ifCond .eq 7, 3) := by decide +kernel
theorem dX0_countTracks_34 : decode cX0_countTracks 34 = .ok (.iconst 1, 1) := by decide +kernel
theorem dX0_countTracks_35 : decode cX0_countTracks 35 = .ok (.goto 4, 3) := by decide +kernel
theorem dX0_countTracks_38 : decode cX0_countTracks 38 = .ok (.iconst 0, 1) := by decide +kernel
theorem dX0_countTracks_39 : decode cX0_countTracks 39 = .ok (.iadd, 1) := by decide +kernel
theorem dX0_countTracks_40 : decode cX0_countTracks 40 = .ok (.istore_n 1, 1) := by decide +kernel
theorem dX0_countTracks_41 : decode cX0_countTracks 41 = .ok (.iinc 4 1, 3) := by decide +kernel
theorem dX0_countTracks_44 : decode cX0_countTracks 44 = .ok (.goto (-31), 3) := by decide +kernel
theorem dX0_countTracks_47 : decode cX0_countTracks 47 = .ok (.iload_n 1, 1) := by decide +kernel
theorem dX0_countTracks_48 : decode cX0_countTracks 48 = .ok (.ireturn, 1) := by decide +kernel
set_option maxRecDepth 20000 in
theorem ggX0_countAllPrints_X0_countPrintsInRows : GoodIn wsX0_countAllPrints wsX0_countPrintsInRows := goodIn_r _ [5, 6, 7, 8, 9, 10, 11, 12, 13, 14, 15, 16, 17, 18, 19, 20, 21, 22, 23, 24, 25] (by decide +kernel) (by decide +kernel)
set_option maxRecDepth 20000 in
theorem gX0_countAllPrints_X0_countPrintsInRows : GoodIn wsX0_countAllPrints (wsV RX0 57 RX0 yX0_countPrintsInRows wsX0_countPrintsInRows) := goodIn_app (goodIn_of _ (by decide +kernel)) ggX0_countAllPrints_X0_countPrintsInRows
theorem dX0_countAllPrints_0 : decode cX0_countAllPrints 0 = .ok (.aload_n 0, 1) := by decide +kernel
theorem dX0_countAllPrints_1 : decode cX0_countAllPrints 1 = .ok (.iconst 0, 1) := by decide +kernel
theorem dX0_countAllPrints_2 : decode cX0_countAllPrints 2 = .ok (.bipush 10, 2) := by decide +kernel
theorem dX0_countAllPrints_4 : decode cX0_countAllPrints 4 = .ok (.invokevirtual 57, 3) := by decide +kernel
theorem dX0_countAllPrints_7 : decode cX0_countAllPrints 7 = .ok (.ireturn, 1) := by decide +kernel
theorem dX0_countPrintsInRows_0 : decode cX0_countPrintsInRows 0 = .ok (.iconst 0, 1) := by decide +kernel
theorem dX0_countPrintsInRows_1 : decode cX0_countPrintsInRows 1 = .ok (.istore_n 3, 1) := by decide +kernel
theorem dX0_countPrintsInRows_2 : decode cX0_countPrintsInRows 2 = .ok (.aload_n 0, 1) := by decide +kernel
theorem dX0_countPrintsInRows_3 : decode cX0_countPrintsInRows 3 = .ok (.getfield 20, 3) := by decide +kernel
theorem dX0_countPrintsInRows_6 : decode cX0_countPrintsInRows 6 = .ok (.astore 4, 2) := by decide +kernel
theorem dX0_countPrintsInRows_8 : decode cX0_countPrintsInRows 8 = .ok (.aload 4, 2) := by decide +kernel
theorem dX0_countPrintsInRows_10 : decode cX0_countPrintsInRows 10 = .ok (.arraylength, 1) := by decide +kernel
theorem dX0_countPrintsInRows_11 : decode cX0_countPrintsInRows 11 = .ok (.istore 5, 2) := by decide +kernel
theorem dX0_countPrintsInRows_13 : decode cX0_countPrintsInRows 13 = .ok (.iconst 0, 1) := by decide +kernel
theorem dX0_countPrintsInRows_14 : decode cX0_countPrintsInRows 14 = .ok (.istore 6, 2) := by decide +kernel
theorem dX0_countPrintsInRows_16 : decode cX0_countPrintsInRows 16 = .ok (.iload 6, 2) := by decide +kernel
theorem dX0_countPrintsInRows_18 : decode cX0_countPrintsInRows 18 = .ok (.iload 5, 2) := by decide +kernel
theorem dX0_countPrintsInRows_20 : decode cX0_countPrintsInRows 20 = .ok (.if_icmp .ge 50, 3) := by decide +kernel
theorem dX0_countPrintsInRows_23 : decode cX0_countPrintsInRows 23 = .ok (.aload 4, 2) := by decide +kernel
theorem dX0_countPrintsInRows_25 : decode cX0_countPrintsInRows 25 = .ok (.iload 6, 2) := by decide +kernel
theorem dX0_countPrintsInRows_27 : decode cX0_countPrintsInRows 27 = .ok (.aaload, 1) := by decide +kernel
theorem dX0_countPrintsInRows_28 : decode cX0_countPrintsInRows 28 = .ok (.astore 7, 2) := by decide +kernel
theorem dX0_countPrintsInRows_30 : decode cX0_countPrintsInRows 30 = .ok (.iload_n 3, 1) := by decide +kernel
theorem dX0_countPrintsInRows_31 : decode cX0_countPrintsInRows 31 = .ok (.aload 7, 2) := by decide +kernel
theorem dX0_countPrintsInRows_33 : decode cX0_countPrintsInRows 33 = .ok (.getfield 55, 3) := by decide +kernel
theorem dX0_countPrintsInRows_36 : decode cX0_countPrintsInRows 36 = .ok (.ifCond .eq 25, 3) := by decide +kernel
theorem dX0_countPrintsInRows_39 : decode cX0_countPrintsInRows 39 = .ok (.aload 7, 2) := by decide +kernel
theorem dX0_countPrintsInRows_41 : decode cX0_countPrintsInRows 41 = .ok (.getfield 61, 3) := by decide +kernel
theorem dX0_countPrintsInRows_44 : decode cX0_countPrintsInRows 44 = .ok (.iload_n 1, 1) := by decide +kernel
theorem dX0_countPrintsInRows_45 : decode cX0_countPrintsInRows 45 = .ok (.if_icmp .lt 16, 3) := by decide +kernel
theorem dX0_countPrintsInRows_48 : decode cX0_countPrintsInRows 48 = .ok (.aload 7, 2) := by decide +kernel
theorem dX0_countPrintsInRows_50 : decode cX0_countPrintsInRows 50 = .ok (.getfield 61, 3) := by decide +kernel
theorem dX0_countPrintsInRows_53 : decode cX0_countPrintsInRows 53 = .ok (.iload_n 2, 1) := by decide +kernel
theorem dX0_countPrintsInRows_54 : decode cX0_countPrintsInRows 54 = .ok (.if_icmp .ge 7, 3) := by decide +kernel
theorem dX0_countPrintsInRows_57 : decode cX0_countPrintsInRows 57 = .ok (.iconst 1, 1) := by decide +kernel
theorem dX0_countPrintsInRows_58 : decode cX0_countPrintsInRows 58 = .ok (.goto 4, 3) := by decide +kernel
theorem dX0_countPrintsInRows_61 : decode cX0_countPrintsInRows 61 = .ok (.iconst 0, 1) := by decide +kernel
theorem dX0_countPrintsInRows_62 : decode cX0_countPrintsInRows 62 = .ok (.iadd, 1) := by decide +kernel
theorem dX0_countPrintsInRows_63 : decode cX0_countPrintsInRows 63 = .ok (.istore_n 3, 1) := by decide +kernel
theorem dX0_countPrintsInRows_64 : decode cX0_countPrintsInRows 64 = .ok (.iinc 6 1, 3) := by decide +kernel
theorem dX0_countPrintsInRows_67 : decode cX0_countPrintsInRows 67 = .ok (.goto (-51), 3) := by decide +kernel
theorem dX0_countPrintsInRows_70 : decode cX0_countPrintsInRows 70 = .ok (.iload_n 3, 1) := by decide +kernel
theorem dX0_countPrintsInRows_71 : decode cX0_countPrintsInRows 71 = .ok (.ireturn, 1) := by decide +kernel
theorem dX0_countLatePrints_0 : decode cX0_countLatePrints 0 = .ok (.iconst 0, 1) := by decide +kernel
theorem dX0_countLatePrints_1 : decode cX0_countLatePrints 1 = .ok (.istore_n 1, 1) := by decide +kernel
theorem dX0_countLatePrints_2 : decode cX0_countLatePrints 2 = .ok (.aload_n 0, 1) := by decide +kernel
theorem dX0_countLatePrints_3 : decode cX0_countLatePrints 3 = .ok (.getfield 20, 3) := by decide +kernel
theorem dX0_countLatePrints_6 : decode cX0_countLatePrints 6 = .ok (.astore_n 2, 1) := by decide +kernel
theorem dX0_countLatePrints_7 : decode cX0_countLatePrints 7 = .ok (.aload_n 2, 1) := by decide +kernel
theorem dX0_countLatePrints_8 : decode cX0_countLatePrints 8 = .ok (.arraylength, 1) := by decide +kernel
theorem dX0_countLatePrints_9 : decode cX0_countLatePrints 9 = .ok (.istore_n 3, 1) := by decide +kernel
theorem dX0_countLatePrints_10 : decode cX0_countLatePrints 10 = .ok (.iconst 0, 1) := by decide +kernel
theorem dX0_countLatePrints_11 : decode cX0_countLatePrints 11 = .ok (.istore 4, 2) := by decide +kernel
theorem dX0_countLatePrints_13 : decode cX0_countLatePrints 13 = .ok (.iload 4, 2) := by decide +kernel
theorem dX0_countLatePrints_15 : decode cX0_countLatePrints 15 = .ok (.iload_n 3, 1) := by decide +kernel
theorem dX0_countLatePrints_16 : decode cX0_countLatePrints 16 = .ok (.if_icmp .ge 39, 3) := by decide +kernel
theorem dX0_countLatePrints_19 : decode cX0_countLatePrints 19 = .ok (.aload_n 2, 1) := by decide +kernel
theorem dX0_countLatePrints_20 : decode cX0_countLatePrints 20 = .ok (.iload 4, 2) := by decide +kernel
theorem dX0_countLatePrints_22 : decode cX0_countLatePrints 22 = .ok (.aaload, 1) := by decide +kernel
theorem dX0_countLatePrints_23 : decode cX0_countLatePrints 23 = .ok (.astore 5, 2) := by decide +kernel
theorem dX0_countLatePrints_25 : decode cX0_countLatePrints 25 = .ok (.iload_n 1, 1) := by decide +kernel
theorem dX0_countLatePrints_26 : decode cX0_countLatePrints 26 = .ok (.aload 5, 2) := by decide +kernel
theorem dX0_countLatePrints_28 : decode cX0_countLatePrints 28 = .ok (.getfield 55, 3) := by decide +kernel
theorem dX0_countLatePrints_31 : decode cX0_countLatePrints 31 = .ok (.ifCond .eq 15, 3) := by decide +kernel
theorem dX0_countLatePrints_34 : decode cX0_countLatePrints 34 = .ok (.aload 5, 2) := by decide +kernel
theorem dX0_countLatePrints_36 : decode cX0_countLatePrints 36 = .ok (.getfield 64, 3) := by decide +kernel
theorem dX0_countLatePrints_39 : decode cX0_countLatePrints 39 = .ok (.ifCond .eq 7, 3) := by decide +kernel
theorem dX0_countLatePrints_42 : decode cX0_countLatePrints 42 = .ok (.iconst 1, 1) := by decide +kernel
theorem dX0_countLatePrints_43 : decode cX0_countLatePrints 43 = .ok (.goto 4, 3) := by decide +kernel
theorem dX0_countLatePrints_46 : decode cX0_countLatePrints 46 = .ok (.iconst 0, 1) := by decide +kernel
theorem dX0_countLatePrints_47 : decode cX0_countLatePrints 47 = .ok (.iadd, 1) := by decide +kernel
theorem dX0_countLatePrints_48 : decode cX0_countLatePrints 48 = .ok (.istore_n 1, 1) := by decide +kernel
theorem dX0_countLatePrints_49 : decode cX0_countLatePrints 49 = .ok (.iinc 4 1, 3) := by decide +kernel
theorem dX0_countLatePrints_52 : decode cX0_countLatePrints 52 = .ok (.goto (-39), 3) := by decide +kernel
theorem dX0_countLatePrints_55 : decode cX0_countLatePrints 55 = .ok (.iload_n 1, 1) := by decide +kernel
theorem dX0_countLatePrints_56 : decode cX0_countLatePrints 56 = .ok (.ireturn, 1) := by decide +kernel
set_option maxRecDepth 20000 in
theorem ggX0_countPrints_X0_countPrintsBetween : GoodIn wsX0_countPrints wsX0_countPrintsBetween := goodIn_r _ [6, 7, 8, 9, 10, 11, 12, 13, 14, 15, 19, 20, 21, 22, 23, 24, 25, 26, 27, 28, 29, 30, 31, 32, 33, 34, 35] (by decide +kernel) (by decide +kernel)
set_option maxRecDepth 20000 in
theorem gX0_countPrints_X0_countPrintsBetween : GoodIn wsX0_countPrints (wsV RX0 67 RX0 yX0_countPrintsBetween wsX0_countPrintsBetween) := goodIn_app (goodIn_of _ (by decide +kernel)) ggX0_countPrints_X0_countPrintsBetween
theorem dX0_countPrints_0 : decode cX0_countPrints 0 = .ok (.aload_n 0, 1) := by decide +kernel
theorem dX0_countPrints_1 : decode cX0_countPrints 1 = .ok (.aload_n 1, 1) := by decide +kernel
theorem dX0_countPrints_2 : decode cX0_countPrints 2 = .ok (.getfield 52, 3) := by decide +kernel
theorem dX0_countPrints_5 : decode cX0_countPrints 5 = .ok (.iconst (-1), 1) := by decide +kernel
theorem dX0_countPrints_6 : decode cX0_countPrints 6 = .ok (.sipush 1000, 3) := by decide +kernel
theorem dX0_countPrints_9 : decode cX0_countPrints 9 = .ok (.invokevirtual 67, 3) := by decide +kernel
theorem dX0_countPrints_12 : decode cX0_countPrints 12 = .ok (.ireturn, 1) := by decide +kernel
set_option maxRecDepth 20000 in
theorem ggX0_countPrintsBetween_X3_isOn : GoodIn wsX0_countPrintsBetween wsX3_isOn := goodIn_r _ [7, 8, 9, 17, 18, 19, 20, 21, 22, 23, 24, 25, 26] (by decide +kernel) (by decide +kernel)
set_option maxRecDepth 20000 in
theorem gX0_countPrintsBetween_X3_isOn : GoodIn wsX0_countPrintsBetween (wsV RX0 71 RX3 yX3_isOn wsX3_isOn) := goodIn_app (goodIn_of _ (by decide +kernel)) ggX0_countPrintsBetween_X3_isOn
theorem dX0_countPrintsBetween_0 : decode cX0_countPrintsBetween 0 = .ok (.iconst 0, 1) := by decide +kernel
theorem dX0_countPrintsBetween_1 : decode cX0_countPrintsBetween 1 = .ok (.istore 4, 2) := by decide +kernel
theorem dX0_countPrintsBetween_3 : decode cX0_countPrintsBetween 3 = .ok (.aload_n 0, 1) := by decide +kernel
theorem dX0_countPrintsBetween_4 : decode cX0_countPrintsBetween 4 = .ok (.getfield 20, 3) := by decide +kernel
theorem dX0_countPrintsBetween_7 : decode cX0_countPrintsBetween 7 = .ok (.astore 5, 2) := by decide +kernel
theorem dX0_countPrintsBetween_9 : decode cX0_countPrintsBetween 9 = .ok (.aload 5, 2) := by decide +kernel
theorem dX0_countPrintsBetween_11 : decode cX0_countPrintsBetween 11 = .ok (.arraylength, 1) := by decide +kernel
theorem dX0_countPrintsBetween_12 : decode cX0_countPrintsBetween 12 = .ok (.istore 6, 2) := by decide +kernel
theorem dX0_countPrintsBetween_14 : decode cX0_countPrintsBetween 14 = .ok (.iconst 0, 1) := by decide +kernel
theorem dX0_countPrintsBetween_15 : decode cX0_countPrintsBetween 15 = .ok (.istore 7, 2) := by decide +kernel
theorem dX0_countPrintsBetween_17 : decode cX0_countPrintsBetween 17 = .ok (.iload 7, 2) := by decide +kernel
theorem dX0_countPrintsBetween_19 : decode cX0_countPrintsBetween 19 = .ok (.iload 6, 2) := by decide +kernel
theorem dX0_countPrintsBetween_21 : decode cX0_countPrintsBetween 21 = .ok (.if_icmp .ge 53, 3) := by decide +kernel
theorem dX0_countPrintsBetween_24 : decode cX0_countPrintsBetween 24 = .ok (.aload 5, 2) := by decide +kernel
theorem dX0_countPrintsBetween_26 : decode cX0_countPrintsBetween 26 = .ok (.iload 7, 2) := by decide +kernel
theorem dX0_countPrintsBetween_28 : decode cX0_countPrintsBetween 28 = .ok (.aaload, 1) := by decide +kernel
theorem dX0_countPrintsBetween_29 : decode cX0_countPrintsBetween 29 = .ok (.astore 8, 2) := by decide +kernel
theorem dX0_countPrintsBetween_31 : decode cX0_countPrintsBetween 31 = .ok (.iload 4, 2) := by decide +kernel
theorem dX0_countPrintsBetween_33 : decode cX0_countPrintsBetween 33 = .ok (.aload 8, 2) := by decide +kernel
theorem dX0_countPrintsBetween_35 : decode cX0_countPrintsBetween 35 = .ok (.iload_n 1, 1) := by decide +kernel
theorem dX0_countPrintsBetween_36 : decode cX0_countPrintsBetween 36 = .ok (.invokevirtual 71, 3) := by decide +kernel
theorem dX0_countPrintsBetween_39 : decode cX0_countPrintsBetween 39 = .ok (.ifCond .eq 25, 3) := by decide +kernel
theorem dX0_countPrintsBetween_42 : decode cX0_countPrintsBetween 42 = .ok (.aload 8, 2) := by decide +kernel
theorem dX0_countPrintsBetween_44 : decode cX0_countPrintsBetween 44 = .ok (.getfield 75, 3) := by decide +kernel
theorem dX0_countPrintsBetween_47 : decode cX0_countPrintsBetween 47 = .ok (.iload_n 2, 1) := by decide +kernel
theorem dX0_countPrintsBetween_48 : decode cX0_countPrintsBetween 48 = .ok (.if_icmp .le 16, 3) := by decide +kernel
theorem dX0_countPrintsBetween_51 : decode cX0_countPrintsBetween 51 = .ok (.aload 8, 2) := by decide +kernel
theorem dX0_countPrintsBetween_53 : decode cX0_countPrintsBetween 53 = .ok (.getfield 75, 3) := by decide +kernel
theorem dX0_countPrintsBetween_56 : decode cX0_countPrintsBetween 56 = .ok (.iload_n 3, 1) := by decide +kernel
theorem dX0_countPrintsBetween_57 : decode cX0_countPrintsBetween 57 = .ok (.if_icmp .ge 7, 3) := by decide +kernel
theorem dX0_countPrintsBetween_60 : decode cX0_countPrintsBetween 60 = .ok (.iconst 1, 1) := by decide +kernel
theorem dX0_countPrintsBetween_61 : decode cX0_countPrintsBetween 61 = .ok (.goto 4, 3) := by decide +kernel
theorem dX0_countPrintsBetween_64 : decode cX0_countPrintsBetween 64 = .ok (.iconst 0, 1) := by decide +kernel
theorem dX0_countPrintsBetween_65 : decode cX0_countPrintsBetween 65 = .ok (.iadd, 1) := by decide +kernel
theorem dX0_countPrintsBetween_66 : decode cX0_countPrintsBetween 66 = .ok (.istore 4, 2) := by decide +kernel
theorem dX0_countPrintsBetween_68 : decode cX0_countPrintsBetween 68 = .ok (.iinc 7 1, 3) := by decide +kernel
theorem dX0_countPrintsBetween_71 : decode cX0_countPrintsBetween 71 = .ok (.goto (-54), 3) := by decide +kernel
theorem dX0_countPrintsBetween_74 : decode cX0_countPrintsBetween 74 = .ok (.iload 4, 2) := by decide +kernel
theorem dX0_countPrintsBetween_76 : decode cX0_countPrintsBetween 76 = .ok (.ireturn, 1) := by decide +kernel
theorem dX0_inCell_0 : decode cX0_inCell 0 = .ok (.aload_n 0, 1) := by decide +kernel
theorem dX0_inCell_1 : decode cX0_inCell 1 = .ok (.getfield 20, 3) := by decide +kernel
theorem dX0_inCell_4 : decode cX0_inCell 4 = .ok (.astore_n 3, 1) := by decide +kernel
theorem dX0_inCell_5 : decode cX0_inCell 5 = .ok (.aload_n 3, 1) := by decide +kernel
theorem dX0_inCell_6 : decode cX0_inCell 6 = .ok (.arraylength, 1) := by decide +kernel
theorem dX0_inCell_7 : decode cX0_inCell 7 = .ok (.istore 4, 2) := by decide +kernel
theorem dX0_inCell_9 : decode cX0_inCell 9 = .ok (.iconst 0, 1) := by decide +kernel
theorem dX0_inCell_10 : decode cX0_inCell 10 = .ok (.istore 5, 2) := by decide +kernel
theorem dX0_inCell_12 : decode cX0_inCell 12 = .ok (.iload 5, 2) := by decide +kernel
theorem dX0_inCell_14 : decode cX0_inCell 14 = .ok (.iload 4, 2) := by decide +kernel
theorem dX0_inCell_16 : decode cX0_inCell 16 = .ok (.if_icmp .ge 44, 3) := by decide +kernel
theorem dX0_inCell_19 : decode cX0_inCell 19 = .ok (.aload_n 3, 1) := by decide +kernel
theorem dX0_inCell_20 : decode cX0_inCell 20 = .ok (.iload 5, 2) := by decide +kernel
theorem dX0_inCell_22 : decode cX0_inCell 22 = .ok (.aaload, 1) := by decide +kernel
theorem dX0_inCell_23 : decode cX0_inCell 23 = .ok (.astore 6, 2) := by decide +kernel
theorem dX0_inCell_25 : decode cX0_inCell 25 = .ok (.aload 6, 2) := by decide +kernel
theorem dX0_inCell_27 : decode cX0_inCell 27 = .ok (.getfield 55, 3) := by decide +kernel
theorem dX0_inCell_30 : decode cX0_inCell 30 = .ok (.ifCond .eq 24, 3) := by decide +kernel
theorem dX0_inCell_33 : decode cX0_inCell 33 = .ok (.aload 6, 2) := by decide +kernel
theorem dX0_inCell_35 : decode cX0_inCell 35 = .ok (.getfield 61, 3) := by decide +kernel
theorem dX0_inCell_38 : decode cX0_inCell 38 = .ok (.iload_n 1, 1) := by decide +kernel
theorem dX0_inCell_39 : decode cX0_inCell 39 = .ok (.if_icmp .ne 15, 3) := by decide +kernel
theorem dX0_inCell_42 : decode cX0_inCell 42 = .ok (.aload 6, 2) := by decide +kernel
theorem dX0_inCell_44 : decode cX0_inCell 44 = .ok (.getfield 78, 3) := by decide +kernel
theorem dX0_inCell_47 : decode cX0_inCell 47 = .ok (.iload_n 2, 1) := by decide +kernel
theorem dX0_inCell_48 : decode cX0_inCell 48 = .ok (.if_icmp .ne 6, 3) := by decide +kernel
theorem dX0_inCell_51 : decode cX0_inCell 51 = .ok (.aload 6, 2) := by decide +kernel
theorem dX0_inCell_53 : decode cX0_inCell 53 = .ok (.areturn, 1) := by decide +kernel
theorem dX0_inCell_54 : decode cX0_inCell 54 = .ok (.iinc 5 1, 3) := by decide +kernel
theorem dX0_inCell_57 : decode cX0_inCell 57 = .ok (.goto (-45), 3) := by decide +kernel
theorem dX0_inCell_60 : decode cX0_inCell 60 = .ok (.aconst_null, 1) := by decide +kernel
theorem dX0_inCell_61 : decode cX0_inCell 61 = .ok (.areturn, 1) := by decide +kernel
set_option maxRecDepth 20000 in
theorem ggX0_atTime_X3_isOn : GoodIn wsX0_atTime wsX3_isOn := goodIn_r _ [7, 8, 9, 17, 18, 19, 20, 21, 22, 23, 24, 25, 26] (by decide +kernel) (by decide +kernel)
set_option maxRecDepth 20000 in
theorem gX0_atTime_X3_isOn : GoodIn wsX0_atTime (wsV RX0 71 RX3 yX3_isOn wsX3_isOn) := goodIn_app (goodIn_of _ (by decide +kernel)) ggX0_atTime_X3_isOn
theorem dX0_atTime_0 : decode cX0_atTime 0 = .ok (.aload_n 0, 1) := by decide +kernel
theorem dX0_atTime_1 : decode cX0_atTime 1 = .ok (.getfield 20, 3) := by decide +kernel
theorem dX0_atTime_4 : decode cX0_atTime 4 = .ok (.astore_n 3, 1) := by decide +kernel
theorem dX0_atTime_5 : decode cX0_atTime 5 = .ok (.aload_n 3, 1) := by decide +kernel
theorem dX0_atTime_6 : decode cX0_atTime 6 = .ok (.arraylength, 1) := by decide +kernel
theorem dX0_atTime_7 : decode cX0_atTime 7 = .ok (.istore 4, 2) := by decide +kernel
theorem dX0_atTime_9 : decode cX0_atTime 9 = .ok (.iconst 0, 1) := by decide +kernel
theorem dX0_atTime_10 : decode cX0_atTime 10 = .ok (.istore 5, 2) := by decide +kernel
theorem dX0_atTime_12 : decode cX0_atTime 12 = .ok (.iload 5, 2) := by decide +kernel
theorem dX0_atTime_14 : decode cX0_atTime 14 = .ok (.iload 4, 2) := by decide +kernel
theorem dX0_atTime_16 : decode cX0_atTime 16 = .ok (.if_icmp .ge 36, 3) := by decide +kernel
theorem dX0_atTime_19 : decode cX0_atTime 19 = .ok (.aload_n 3, 1) := by decide +kernel
theorem dX0_atTime_20 : decode cX0_atTime 20 = .ok (.iload 5, 2) := by decide +kernel
theorem dX0_atTime_22 : decode cX0_atTime 22 = .ok (.aaload, 1) := by decide +kernel
theorem dX0_atTime_23 : decode cX0_atTime 23 = .ok (.astore 6, 2) := by decide +kernel
theorem dX0_atTime_25 : decode cX0_atTime 25 = .ok (.aload 6, 2) := by decide +kernel
theorem dX0_atTime_27 : decode cX0_atTime 27 = .ok (.iload_n 1, 1) := by decide +kernel
theorem dX0_atTime_28 : decode cX0_atTime 28 = .ok (.invokevirtual 71, 3) := by decide +kernel
theorem dX0_atTime_31 : decode cX0_atTime 31 = .ok (.ifCond .eq 15, 3) := by decide +kernel
theorem dX0_atTime_34 : decode cX0_atTime 34 = .ok (.aload 6, 2) := by decide +kernel
theorem dX0_atTime_36 : decode cX0_atTime 36 = .ok (.getfield 75, 3) := by decide +kernel
theorem dX0_atTime_39 : decode cX0_atTime 39 = .ok (.iload_n 2, 1) := by decide +kernel
theorem dX0_atTime_40 : decode cX0_atTime 40 = .ok (.if_icmp .ne 6, 3) := by decide +kernel
theorem dX0_atTime_43 : decode cX0_atTime 43 = .ok (.aload 6, 2) := by decide +kernel
theorem dX0_atTime_45 : decode cX0_atTime 45 = .ok (.areturn, 1) := by decide +kernel
theorem dX0_atTime_46 : decode cX0_atTime 46 = .ok (.iinc 5 1, 3) := by decide +kernel
theorem dX0_atTime_49 : decode cX0_atTime 49 = .ok (.goto (-37), 3) := by decide +kernel
theorem dX0_atTime_52 : decode cX0_atTime 52 = .ok (.aconst_null, 1) := by decide +kernel
theorem dX0_atTime_53 : decode cX0_atTime 53 = .ok (.areturn, 1) := by decide +kernel
set_option maxRecDepth 20000 in
theorem ggX0_inPlace_X3_isOn : GoodIn wsX0_inPlace wsX3_isOn := goodIn_r _ [8, 9, 10, 26, 27, 28, 29, 30, 31, 32, 33, 34, 35] (by decide +kernel) (by decide +kernel)
set_option maxRecDepth 20000 in
theorem gX0_inPlace_X3_isOn : GoodIn wsX0_inPlace (wsV RX0 71 RX3 yX3_isOn wsX3_isOn) := goodIn_app (goodIn_of _ (by decide +kernel)) ggX0_inPlace_X3_isOn
set_option maxRecDepth 20000 in
theorem ggX0_inPlace_X0_countPrintsBetween : GoodIn wsX0_inPlace wsX0_countPrintsBetween := goodIn_r _ [15, 1, 3, 4, 5, 6, 7, 8, 9, 10, 16, 17, 18, 19, 20, 21, 22, 26, 27, 28, 29, 30, 31, 32, 33, 34, 35] (by decide +kernel) (by decide +kernel)
set_option maxRecDepth 20000 in
theorem gX0_inPlace_X0_countPrintsBetween : GoodIn wsX0_inPlace (wsV RX0 67 RX0 yX0_countPrintsBetween wsX0_countPrintsBetween) := goodIn_app (goodIn_of _ (by decide +kernel)) ggX0_inPlace_X0_countPrintsBetween
theorem dX0_inPlace_0 : decode cX0_inPlace 0 = .ok (.aload_n 0, 1) := by decide +kernel
theorem dX0_inPlace_1 : decode cX0_inPlace 1 = .ok (.getfield 20, 3) := by decide +kernel
theorem dX0_inPlace_4 : decode cX0_inPlace 4 = .ok (.astore_n 3, 1) := by decide +kernel
theorem dX0_inPlace_5 : decode cX0_inPlace 5 = .ok (.aload_n 3, 1) := by decide +kernel
theorem dX0_inPlace_6 : decode cX0_inPlace 6 = .ok (.arraylength, 1) := by decide +kernel
theorem dX0_inPlace_7 : decode cX0_inPlace 7 = .ok (.istore 4, 2) := by decide +kernel
theorem dX0_inPlace_9 : decode cX0_inPlace 9 = .ok (.iconst 0, 1) := by decide +kernel
theorem dX0_inPlace_10 : decode cX0_inPlace 10 = .ok (.istore 5, 2) := by decide +kernel
theorem dX0_inPlace_12 : decode cX0_inPlace 12 = .ok (.iload 5, 2) := by decide +kernel
theorem dX0_inPlace_14 : decode cX0_inPlace 14 = .ok (.iload 4, 2) := by decide +kernel
theorem dX0_inPlace_16 : decode cX0_inPlace 16 = .ok (.if_icmp .ge 48, 3) := by decide +kernel
theorem dX0_inPlace_19 : decode cX0_inPlace 19 = .ok (.aload_n 3, 1) := by decide +kernel
theorem dX0_inPlace_20 : decode cX0_inPlace 20 = .ok (.iload 5, 2) := by decide +kernel
theorem dX0_inPlace_22 : decode cX0_inPlace 22 = .ok (.aaload, 1) := by decide +kernel
theorem dX0_inPlace_23 : decode cX0_inPlace 23 = .ok (.astore 6, 2) := by decide +kernel
theorem dX0_inPlace_25 : decode cX0_inPlace 25 = .ok (.aload 6, 2) := by decide +kernel
theorem dX0_inPlace_27 : decode cX0_inPlace 27 = .ok (.aload_n 1, 1) := by decide +kernel
theorem dX0_inPlace_28 : decode cX0_inPlace 28 = .ok (.getfield 52, 3) := by decide +kernel
theorem dX0_inPlace_31 : decode cX0_inPlace 31 = .ok (.invokevirtual 71, 3) := by decide +kernel
theorem dX0_inPlace_34 : decode cX0_inPlace 34 = .ok (.ifCond .eq 24, 3) := by decide +kernel
theorem dX0_inPlace_37 : decode cX0_inPlace 37 = .ok (.aload_n 0, 1) := by decide +kernel
theorem dX0_inPlace_38 : decode cX0_inPlace 38 = .ok (.aload_n 1, 1) := by decide +kernel
theorem dX0_inPlace_39 : decode cX0_inPlace 39 = .ok (.getfield 52, 3) := by decide +kernel
theorem dX0_inPlace_42 : decode cX0_inPlace 42 = .ok (.iconst (-1), 1) := by decide +kernel
theorem dX0_inPlace_43 : decode cX0_inPlace 43 = .ok (.aload 6, 2) := by decide +kernel
theorem dX0_inPlace_45 : decode cX0_inPlace 45 = .ok (.getfield 75, 3) := by decide +kernel
theorem dX0_inPlace_48 : decode cX0_inPlace 48 = .ok (.invokevirtual 67, 3) := by decide +kernel
theorem dX0_inPlace_51 : decode cX0_inPlace 51 = .ok (.iload_n 2, 1) := by decide +kernel
theorem dX0_inPlace_52 : decode cX0_inPlace 52 = .ok (.if_icmp .ne 6, 3) := by decide +kernel
theorem dX0_inPlace_55 : decode cX0_inPlace 55 = .ok (.aload 6, 2) := by decide +kernel
theorem dX0_inPlace_57 : decode cX0_inPlace 57 = .ok (.areturn, 1) := by decide +kernel
theorem dX0_inPlace_58 : decode cX0_inPlace 58 = .ok (.iinc 5 1, 3) := by decide +kernel
theorem dX0_inPlace_61 : decode cX0_inPlace 61 = .ok (.goto (-49), 3) := by decide +kernel
theorem dX0_inPlace_64 : decode cX0_inPlace 64 = .ok (.aconst_null, 1) := by decide +kernel
theorem dX0_inPlace_65 : decode cX0_inPlace 65 = .ok (.areturn, 1) := by decide +kernel
set_option maxRecDepth 20000 in
theorem ggX0_before_X3_isOn : GoodIn wsX0_before wsX3_isOn := goodIn_r _ [8, 9, 10, 18, 19, 20, 21, 22, 23, 24, 25, 26, 27] (by decide +kernel) (by decide +kernel)
set_option maxRecDepth 20000 in
theorem gX0_before_X3_isOn : GoodIn wsX0_before (wsV RX0 71 RX3 yX3_isOn wsX3_isOn) := goodIn_app (goodIn_of _ (by decide +kernel)) ggX0_before_X3_isOn
theorem dX0_before_0 : decode cX0_before 0 = .ok (.aconst_null, 1) := by decide +kernel
theorem dX0_before_1 : decode cX0_before 1 = .ok (.astore_n 2, 1) := by decide +kernel
theorem dX0_before_2 : decode cX0_before 2 = .ok (.aload_n 0, 1) := by decide +kernel
theorem dX0_before_3 : decode cX0_before 3 = .ok (.getfield 20, 3) := by decide +kernel
theorem dX0_before_6 : decode cX0_before 6 = .ok (.astore_n 3, 1) := by decide +kernel
theorem dX0_before_7 : decode cX0_before 7 = .ok (.aload_n 3, 1) := by decide +kernel
theorem dX0_before_8 : decode cX0_before 8 = .ok (.arraylength, 1) := by decide +kernel
theorem dX0_before_9 : decode cX0_before 9 = .ok (.istore 4, 2) := by decide +kernel
theorem dX0_before_11 : decode cX0_before 11 = .ok (.iconst 0, 1) := by decide +kernel
theorem dX0_before_12 : decode cX0_before 12 = .ok (.istore 5, 2) := by decide +kernel
theorem dX0_before_14 : decode cX0_before 14 = .ok (.iload 5, 2) := by decide +kernel
theorem dX0_before_16 : decode cX0_before 16 = .ok (.iload 4, 2) := by decide +kernel
theorem dX0_before_18 : decode cX0_before 18 = .ok (.if_icmp .ge 58, 3) := by decide +kernel
theorem dX0_before_21 : decode cX0_before 21 = .ok (.aload_n 3, 1) := by decide +kernel
theorem dX0_before_22 : decode cX0_before 22 = .ok (.iload 5, 2) := by decide +kernel
theorem dX0_before_24 : decode cX0_before 24 = .ok (.aaload, 1) := by decide +kernel
theorem dX0_before_25 : decode cX0_before 25 = .ok (.astore 6, 2) := by decide +kernel
theorem dX0_before_27 : decode cX0_before 27 = .ok (.aload 6, 2) := by decide +kernel
theorem dX0_before_29 : decode cX0_before 29 = .ok (.aload_n 1, 1) := by decide +kernel
theorem dX0_before_30 : decode cX0_before 30 = .ok (.getfield 81, 3) := by decide +kernel
theorem dX0_before_33 : decode cX0_before 33 = .ok (.invokevirtual 71, 3) := by decide +kernel
theorem dX0_before_36 : decode cX0_before 36 = .ok (.ifCond .eq 34, 3) := by decide +kernel
theorem dX0_before_39 : decode cX0_before 39 = .ok (.aload 6, 2) := by decide +kernel
theorem dX0_before_41 : decode cX0_before 41 = .ok (.getfield 75, 3) := by decide +kernel
theorem dX0_before_44 : decode cX0_before 44 = .ok (.aload_n 1, 1) := by decide +kernel
theorem dX0_before_45 : decode cX0_before 45 = .ok (.getfield 75, 3) := by decide +kernel
theorem dX0_before_48 : decode cX0_before 48 = .ok (.if_icmp .ge 22, 3) := by decide +kernel
theorem dX0_before_51 : decode cX0_before 51 = .ok (.aload_n 2, 1) := by decide +kernel
theorem dX0_before_52 : decode cX0_before 52 = .ok (.ifnull 15, 3) := by decide +kernel
theorem dX0_before_55 : decode cX0_before 55 = .ok (.aload 6, 2) := by decide +kernel
theorem dX0_before_57 : decode cX0_before 57 = .ok (.getfield 75, 3) := by decide +kernel
theorem dX0_before_60 : decode cX0_before 60 = .ok (.aload_n 2, 1) := by decide +kernel
theorem dX0_before_61 : decode cX0_before 61 = .ok (.getfield 75, 3) := by decide +kernel
theorem dX0_before_64 : decode cX0_before 64 = .ok (.if_icmp .le 6, 3) := by decide +kernel
theorem dX0_before_67 : decode cX0_before 67 = .ok (.aload 6, 2) := by decide +kernel
theorem dX0_before_69 : decode cX0_before 69 = .ok (.astore_n 2, 1) := by decide +kernel
theorem dX0_before_70 : decode cX0_before 70 = .ok (.iinc 5 1, 3) := by decide +kernel
theorem dX0_before_73 : decode cX0_before 73 = .ok (.goto (-59), 3) := by decide +kernel
theorem dX0_before_76 : decode cX0_before 76 = .ok (.aload_n 2, 1) := by decide +kernel
theorem dX0_before_77 : decode cX0_before 77 = .ok (.areturn, 1) := by decide +kernel
set_option maxRecDepth 20000 in
theorem ggX0_after_X3_isOn : GoodIn wsX0_after wsX3_isOn := goodIn_r _ [8, 9, 10, 18, 19, 20, 21, 22, 23, 24, 25, 26, 27] (by decide +kernel) (by decide +kernel)
set_option maxRecDepth 20000 in
theorem gX0_after_X3_isOn : GoodIn wsX0_after (wsV RX0 71 RX3 yX3_isOn wsX3_isOn) := goodIn_app (goodIn_of _ (by decide +kernel)) ggX0_after_X3_isOn
theorem dX0_after_0 : decode cX0_after 0 = .ok (.aconst_null, 1) := by decide +kernel
theorem dX0_after_1 : decode cX0_after 1 = .ok (.astore_n 2, 1) := by decide +kernel
theorem dX0_after_2 : decode cX0_after 2 = .ok (.aload_n 0, 1) := by decide +kernel
theorem dX0_after_3 : decode cX0_after 3 = .ok (.getfield 20, 3) := by decide +kernel
theorem dX0_after_6 : decode cX0_after 6 = .ok (.astore_n 3, 1) := by decide +kernel
theorem dX0_after_7 : decode cX0_after 7 = .ok (.aload_n 3, 1) := by decide +kernel
theorem dX0_after_8 : decode cX0_after 8 = .ok (.arraylength, 1) := by decide +kernel
theorem dX0_after_9 : decode cX0_after 9 = .ok (.istore 4, 2) := by decide +kernel
theorem dX0_after_11 : decode cX0_after 11 = .ok (.iconst 0, 1) := by decide +kernel
theorem dX0_after_12 : decode cX0_after 12 = .ok (.istore 5, 2) := by decide +kernel
theorem dX0_after_14 : decode cX0_after 14 = .ok (.iload 5, 2) := by decide +kernel
theorem dX0_after_16 : decode cX0_after 16 = .ok (.iload 4, 2) := by decide +kernel
theorem dX0_after_18 : decode cX0_after 18 = .ok (.if_icmp .ge 58, 3) := by decide +kernel
theorem dX0_after_21 : decode cX0_after 21 = .ok (.aload_n 3, 1) := by decide +kernel
theorem dX0_after_22 : decode cX0_after 22 = .ok (.iload 5, 2) := by decide +kernel
theorem dX0_after_24 : decode cX0_after 24 = .ok (.aaload, 1) := by decide +kernel
theorem dX0_after_25 : decode cX0_after 25 = .ok (.astore 6, 2) := by decide +kernel
theorem dX0_after_27 : decode cX0_after 27 = .ok (.aload 6, 2) := by decide +kernel
theorem dX0_after_29 : decode cX0_after 29 = .ok (.aload_n 1, 1) := by decide +kernel
theorem dX0_after_30 : decode cX0_after 30 = .ok (.getfield 81, 3) := by decide +kernel
theorem dX0_after_33 : decode cX0_after 33 = .ok (.invokevirtual 71, 3) := by decide +kernel
theorem dX0_after_36 : decode cX0_after 36 = .ok (.ifCond .eq 34, 3) := by decide +kernel
theorem dX0_after_39 : decode cX0_after 39 = .ok (.aload 6, 2) := by decide +kernel
theorem dX0_after_41 : decode cX0_after 41 = .ok (.getfield 75, 3) := by decide +kernel
theorem dX0_after_44 : decode cX0_after 44 = .ok (.aload_n 1, 1) := by decide +kernel
theorem dX0_after_45 : decode cX0_after 45 = .ok (.getfield 75, 3) := by decide +kernel
theorem dX0_after_48 : decode cX0_after 48 = .ok (.if_icmp .le 22, 3) := by decide +kernel
theorem dX0_after_51 : decode cX0_after 51 = .ok (.aload_n 2, 1) := by decide +kernel
theorem dX0_after_52 : decode cX0_after 52 = .ok (.ifnull 15, 3) := by decide +kernel
theorem dX0_after_55 : decode cX0_after 55 = .ok (.aload 6, 2) := by decide +kernel
theorem dX0_after_57 : decode cX0_after 57 = .ok (.getfield 75, 3) := by decide +kernel
theorem dX0_after_60 : decode cX0_after 60 = .ok (.aload_n 2, 1) := by decide +kernel
theorem dX0_after_61 : decode cX0_after 61 = .ok (.getfield 75, 3) := by decide +kernel
theorem dX0_after_64 : decode cX0_after 64 = .ok (.if_icmp .ge 6, 3) := by decide +kernel
theorem dX0_after_67 : decode cX0_after 67 = .ok (.aload 6, 2) := by decide +kernel
theorem dX0_after_69 : decode cX0_after 69 = .ok (.astore_n 2, 1) := by decide +kernel
theorem dX0_after_70 : decode cX0_after 70 = .ok (.iinc 5 1, 3) := by decide +kernel
theorem dX0_after_73 : decode cX0_after 73 = .ok (.goto (-59), 3) := by decide +kernel
theorem dX0_after_76 : decode cX0_after 76 = .ok (.aload_n 2, 1) := by decide +kernel
theorem dX0_after_77 : decode cX0_after 77 = .ok (.areturn, 1) := by decide +kernel
theorem dX0_countAheadOf_0 : decode cX0_countAheadOf 0 = .ok (.iconst 0, 1) := by decide +kernel
theorem dX0_countAheadOf_1 : decode cX0_countAheadOf 1 = .ok (.istore_n 2, 1) := by decide +kernel
theorem dX0_countAheadOf_2 : decode cX0_countAheadOf 2 = .ok (.aload_n 0, 1) := by decide +kernel
theorem dX0_countAheadOf_3 : decode cX0_countAheadOf 3 = .ok (.getfield 20, 3) := by decide +kernel
theorem dX0_countAheadOf_6 : decode cX0_countAheadOf 6 = .ok (.astore_n 3, 1) := by decide +kernel
theorem dX0_countAheadOf_7 : decode cX0_countAheadOf 7 = .ok (.aload_n 3, 1) := by decide +kernel
theorem dX0_countAheadOf_8 : decode cX0_countAheadOf 8 = .ok (.arraylength, 1) := by decide +kernel
theorem dX0_countAheadOf_9 : decode cX0_countAheadOf 9 = .ok (.istore 4, 2) := by decide +kernel
theorem dX0_countAheadOf_11 : decode cX0_countAheadOf 11 = .ok (.iconst 0, 1) := by decide +kernel
theorem dX0_countAheadOf_12 : decode cX0_countAheadOf 12 = .ok (.istore 5, 2) := by decide +kernel
theorem dX0_countAheadOf_14 : decode cX0_countAheadOf 14 = .ok (.iload 5, 2) := by decide +kernel
theorem dX0_countAheadOf_16 : decode cX0_countAheadOf 16 = .ok (.iload 4, 2) := by decide +kernel
theorem dX0_countAheadOf_18 : decode cX0_countAheadOf 18 = .ok (.if_icmp .ge 98, 3) := by decide +kernel
theorem dX0_countAheadOf_21 : decode cX0_countAheadOf 21 = .ok (.aload_n 3, 1) := by decide +kernel
theorem dX0_countAheadOf_22 : decode cX0_countAheadOf 22 = .ok (.iload 5, 2) := by decide +kernel
theorem dX0_countAheadOf_24 : decode cX0_countAheadOf 24 = .ok (.aaload, 1) := by decide +kernel
theorem dX0_countAheadOf_25 : decode cX0_countAheadOf 25 = .ok (.astore 6, 2) := by decide +kernel
theorem dX0_countAheadOf_27 : decode cX0_countAheadOf 27 = .ok (.aload 6, 2) := by decide +kernel
theorem dX0_countAheadOf_29 : decode cX0_countAheadOf 29 = .ok (.getfield 84, 3) := by decide +kernel
theorem dX0_countAheadOf_32 : decode cX0_countAheadOf 32 = .ok (.aload_n 1, 1) := by decide +kernel
theorem dX0_countAheadOf_33 : decode cX0_countAheadOf 33 = .ok (.getfield 84, 3) := by decide +kernel
theorem dX0_countAheadOf_36 : decode cX0_countAheadOf 36 = .ok (.if_icmp .eq 16, 3) := by decide +kernel
theorem dX0_countAheadOf_39 : decode cX0_countAheadOf 39 = .ok (.aload 6, 2) := by decide +kernel
theorem dX0_countAheadOf_41 : decode cX0_countAheadOf 41 = .ok (.getfield 84, 3) := by decide +kernel
theorem dX0_countAheadOf_44 : decode cX0_countAheadOf 44 = .ok (.aload_n 1, 1) := by decide +kernel
theorem dX0_countAheadOf_45 : decode cX0_countAheadOf 45 = .ok (.getfield 84, 3) := by decide +kernel
theorem dX0_countAheadOf_48 : decode cX0_countAheadOf 48 = .ok (.isub, 1) := by decide +kernel
theorem dX0_countAheadOf_49 : decode cX0_countAheadOf 49 = .ok (.goto 38, 3) := by decide +kernel
theorem dX0_countAheadOf_52 : decode cX0_countAheadOf 52 = .ok (.aload 6, 2) := by decide +kernel
theorem dX0_countAheadOf_54 : decode cX0_countAheadOf 54 = .ok (.getfield 75, 3) := by decide +kernel
theorem dX0_countAheadOf_57 : decode cX0_countAheadOf 57 = .ok (.aload_n 1, 1) := by decide +kernel
theorem dX0_countAheadOf_58 : decode cX0_countAheadOf 58 = .ok (.getfield 75, 3) := by decide +kernel
theorem dX0_countAheadOf_61 : decode cX0_countAheadOf 61 = .ok (.if_icmp .eq 16, 3) := by decide +kernel
theorem dX0_countAheadOf_64 : decode cX0_countAheadOf 64 = .ok (.aload_n 1, 1) := by decide +kernel
theorem dX0_countAheadOf_65 : decode cX0_countAheadOf 65 = .ok (.getfield 75, 3) := by decide +kernel
theorem dX0_countAheadOf_68 : decode cX0_countAheadOf 68 = .ok (.aload 6, 2) := by decide +kernel
theorem dX0_countAheadOf_70 : decode cX0_countAheadOf 70 = .ok (.getfield 75, 3) := by decide +kernel
theorem dX0_countAheadOf_73 : decode cX0_countAheadOf 73 = .ok (.isub, 1) := by decide +kernel
theorem dX0_countAheadOf_74 : decode cX0_countAheadOf 74 = .ok (.goto 13, 3) := by decide +kernel
theorem dX0_countAheadOf_77 : decode cX0_countAheadOf 77 = .ok (.aload_n 1, 1) := by decide +kernel
theorem dX0_countAheadOf_78 : decode cX0_countAheadOf 78 = .ok (.getfield 56, 3) := by decide +kernel
theorem dX0_countAheadOf_81 : decode cX0_countAheadOf 81 = .ok (.aload 6, 2) := by decide +kernel
theorem dX0_countAheadOf_83 : decode cX0_countAheadOf 83 = .ok (.getfield 56, 3) := by decide +kernel
theorem dX0_countAheadOf_86 : decode cX0_countAheadOf 86 = .ok (.isub, 1) := by decide +kernel
theorem dX0_countAheadOf_87 : decode cX0_countAheadOf 87 = .ok (.istore 7, 2) := by decide +kernel
theorem dX0_countAheadOf_89 : decode cX0_countAheadOf 89 = .ok (.iload_n 2, 1) := by decide +kernel
theorem dX0_countAheadOf_90 : decode cX0_countAheadOf 90 = .ok (.aload 6, 2) := by decide +kernel
theorem dX0_countAheadOf_92 : decode cX0_countAheadOf 92 = .ok (.getfield 55, 3) := by decide +kernel
theorem dX0_countAheadOf_95 : decode cX0_countAheadOf 95 = .ok (.ifCond .eq 12, 3) := by decide +kernel
theorem dX0_countAheadOf_98 : decode cX0_countAheadOf 98 = .ok (.iload 7, 2) := by decide +kernel
theorem dX0_countAheadOf_100 : decode cX0_countAheadOf 100 = .ok (.ifCond .le 7, 3) := by decide +kernel
theorem dX0_countAheadOf_103 : decode cX0_countAheadOf 103 = .ok (.iconst 1, 1) := by decide +kernel
theorem dX0_countAheadOf_104 : decode cX0_countAheadOf 104 = .ok (.goto 4, 3) := by decide +kernel
theorem dX0_countAheadOf_107 : decode cX0_countAheadOf 107 = .ok (.iconst 0, 1) := by decide +kernel
theorem dX0_countAheadOf_108 : decode cX0_countAheadOf 108 = .ok (.iadd, 1) := by decide +kernel
theorem dX0_countAheadOf_109 : decode cX0_countAheadOf 109 = .ok (.istore_n 2, 1) := by decide +kernel
theorem dX0_countAheadOf_110 : decode cX0_countAheadOf 110 = .ok (.iinc 5 1, 3) := by decide +kernel
theorem dX0_countAheadOf_113 : decode cX0_countAheadOf 113 = .ok (.goto (-99), 3) := by decide +kernel
theorem dX0_countAheadOf_116 : decode cX0_countAheadOf 116 = .ok (.iload_n 2, 1) := by decide +kernel
theorem dX0_countAheadOf_117 : decode cX0_countAheadOf 117 = .ok (.ireturn, 1) := by decide +kernel
theorem dX0_isUnderWater_0 : decode cX0_isUnderWater 0 = .ok (.iload_n 1, 1) := by decide +kernel
theorem dX0_isUnderWater_1 : decode cX0_isUnderWater 1 = .ok (.aload_n 0, 1) := by decide +kernel
theorem dX0_isUnderWater_2 : decode cX0_isUnderWater 2 = .ok (.getfield 32, 3) := by decide +kernel
theorem dX0_isUnderWater_5 : decode cX0_isUnderWater 5 = .ok (.if_icmp .ge 7, 3) := by decide +kernel
theorem dX0_isUnderWater_8 : decode cX0_isUnderWater 8 = .ok (.iconst 1, 1) := by decide +kernel
theorem dX0_isUnderWater_9 : decode cX0_isUnderWater 9 = .ok (.goto 4, 3) := by decide +kernel
theorem dX0_isUnderWater_12 : decode cX0_isUnderWater 12 = .ok (.iconst 0, 1) := by decide +kernel
theorem dX0_isUnderWater_13 : decode cX0_isUnderWater 13 = .ok (.ireturn, 1) := by decide +kernel
set_option maxRecDepth 20000 in
theorem ggX0_objectionToTrack_X0_countTracks : GoodIn wsX0_objectionToTrack wsX0_countTracks := goodIn_r _ [8, 9, 10, 23, 24, 25, 26, 27, 28, 29, 30, 31, 32] (by decide +kernel) (by decide +kernel)
set_option maxRecDepth 20000 in
theorem gX0_objectionToTrack_X0_countTracks : GoodIn wsX0_objectionToTrack (wsV RX0 87 RX0 yX0_countTracks wsX0_countTracks) := goodIn_app (goodIn_of _ (by decide +kernel)) ggX0_objectionToTrack_X0_countTracks
set_option maxRecDepth 20000 in
theorem ggX0_objectionToTrack_X5_init : GoodIn wsX0_objectionToTrack wsX5_init := goodIn_r _ [13, 14, 15, 16, 17, 18, 19, 20, 21, 22] (by decide +kernel) (by decide +kernel)
set_option maxRecDepth 20000 in
theorem gX0_objectionToTrack_X5_init : GoodIn wsX0_objectionToTrack (wsX5_init) := ggX0_objectionToTrack_X5_init
theorem dX0_objectionToTrack_0 : decode cX0_objectionToTrack 0 = .ok (.aload_n 0, 1) := by decide +kernel
theorem dX0_objectionToTrack_1 : decode cX0_objectionToTrack 1 = .ok (.invokevirtual 87, 3) := by decide +kernel
theorem dX0_objectionToTrack_4 : decode cX0_objectionToTrack 4 = .ok (.bipush 6, 2) := by decide +kernel
theorem dX0_objectionToTrack_6 : decode cX0_objectionToTrack 6 = .ok (.if_icmp .ne 15, 3) := by decide +kernel
theorem dX0_objectionToTrack_9 : decode cX0_objectionToTrack 9 = .ok (.new 91, 3) := by decide +kernel
theorem dX0_objectionToTrack_12 : decode cX0_objectionToTrack 12 = .ok (.dup, 1) := by decide +kernel
theorem dX0_objectionToTrack_13 : decode cX0_objectionToTrack 13 = .ok (.iconst 1, 1) := by decide +kernel
theorem dX0_objectionToTrack_14 : decode cX0_objectionToTrack 14 = .ok (.bipush 6, 2) := by decide +kernel
theorem dX0_objectionToTrack_16 : decode cX0_objectionToTrack 16 = .ok (.aconst_null, 1) := by decide +kernel
theorem dX0_objectionToTrack_17 : decode cX0_objectionToTrack 17 = .ok (.invokespecial 93, 3) := by decide +kernel
theorem dX0_objectionToTrack_20 : decode cX0_objectionToTrack 20 = .ok (.areturn, 1) := by decide +kernel
theorem dX0_objectionToTrack_21 : decode cX0_objectionToTrack 21 = .ok (.aconst_null, 1) := by decide +kernel
theorem dX0_objectionToTrack_22 : decode cX0_objectionToTrack 22 = .ok (.areturn, 1) := by decide +kernel
set_option maxRecDepth 20000 in
theorem ggX0_objectionToPrint_X0_countAllPrints : GoodIn wsX0_objectionToPrint wsX0_countAllPrints := goodIn_r _ [9, 10, 11, 12, 8, 13, 14, 15, 16, 65, 66, 67, 68, 69, 70, 71, 55, 56, 57, 58, 59, 60, 61, 62, 63, 64] (by decide +kernel) (by decide +kernel)
set_option maxRecDepth 20000 in
theorem gX0_objectionToPrint_X0_countAllPrints : GoodIn wsX0_objectionToPrint (wsV RX0 96 RX0 yX0_countAllPrints wsX0_countAllPrints) := goodIn_app (goodIn_of _ (by decide +kernel)) ggX0_objectionToPrint_X0_countAllPrints
set_option maxRecDepth 20000 in
theorem ggX0_objectionToPrint_X5_init : GoodIn wsX0_objectionToPrint wsX5_init := goodIn_r _ [19, 20, 21, 22, 23, 24, 25, 52, 53, 54] (by decide +kernel) (by decide +kernel)
set_option maxRecDepth 20000 in
theorem gX0_objectionToPrint_X5_init : GoodIn wsX0_objectionToPrint (wsX5_init) := ggX0_objectionToPrint_X5_init
set_option maxRecDepth 20000 in
theorem ggX0_objectionToPrint_X0_atTime : GoodIn wsX0_objectionToPrint wsX0_atTime := goodIn_r _ [29, 14, 30, 31, 32, 33, 34, 35, 36, 37, 65, 66, 67, 68, 69, 70, 71, 55, 56, 57, 58, 59, 60, 61, 62, 63, 64] (by decide +kernel) (by decide +kernel)
set_option maxRecDepth 20000 in
theorem gX0_objectionToPrint_X0_atTime : GoodIn wsX0_objectionToPrint (wsV RX0 99 RX0 yX0_atTime wsX0_atTime) := goodIn_app (goodIn_of _ (by decide +kernel)) ggX0_objectionToPrint_X0_atTime
set_option maxRecDepth 20000 in
theorem ggX0_objectionToPrint_X0_objectionToCell : GoodIn wsX0_objectionToPrint wsX0_objectionToCell := goodIn_r _ [41, 1, 2, 3, 42, 4, 43, 44, 45, 8, 46, 17, 18, 19, 20, 21, 22, 23, 24, 25, 47, 48, 49, 50, 14, 15, 16, 51, 52, 53, 54, 65, 66, 67, 68, 69, 70, 71, 55, 56, 57, 58, 59, 60, 61, 62, 63, 64] (by decide +kernel) (by decide +kernel)
set_option maxRecDepth 20000 in
theorem gX0_objectionToPrint_X0_objectionToCell : GoodIn wsX0_objectionToPrint (wsV RX0 103 RX0 yX0_objectionToCell wsX0_objectionToCell) := goodIn_app (goodIn_of _ (by decide +kernel)) ggX0_objectionToPrint_X0_objectionToCell
theorem dX0_objectionToPrint_0 : decode cX0_objectionToPrint 0 = .ok (.aload_n 0, 1) := by decide +kernel
theorem dX0_objectionToPrint_1 : decode cX0_objectionToPrint 1 = .ok (.invokevirtual 96, 3) := by decide +kernel
theorem dX0_objectionToPrint_4 : decode cX0_objectionToPrint 4 = .ok (.bipush 30, 2) := by decide +kernel
theorem dX0_objectionToPrint_6 : decode cX0_objectionToPrint 6 = .ok (.if_icmp .ne 15, 3) := by decide +kernel
theorem dX0_objectionToPrint_9 : decode cX0_objectionToPrint 9 = .ok (.new 91, 3) := by decide +kernel
theorem dX0_objectionToPrint_12 : decode cX0_objectionToPrint 12 = .ok (.dup, 1) := by decide +kernel
theorem dX0_objectionToPrint_13 : decode cX0_objectionToPrint 13 = .ok (.iconst 2, 1) := by decide +kernel
theorem dX0_objectionToPrint_14 : decode cX0_objectionToPrint 14 = .ok (.bipush 30, 2) := by decide +kernel
theorem dX0_objectionToPrint_16 : decode cX0_objectionToPrint 16 = .ok (.aconst_null, 1) := by decide +kernel
theorem dX0_objectionToPrint_17 : decode cX0_objectionToPrint 17 = .ok (.invokespecial 93, 3) := by decide +kernel
theorem dX0_objectionToPrint_20 : decode cX0_objectionToPrint 20 = .ok (.areturn, 1) := by decide +kernel
theorem dX0_objectionToPrint_21 : decode cX0_objectionToPrint 21 = .ok (.aload_n 0, 1) := by decide +kernel
theorem dX0_objectionToPrint_22 : decode cX0_objectionToPrint 22 = .ok (.iload_n 1, 1) := by decide +kernel
theorem dX0_objectionToPrint_23 : decode cX0_objectionToPrint 23 = .ok (.iload_n 2, 1) := by decide +kernel
theorem dX0_objectionToPrint_24 : decode cX0_objectionToPrint 24 = .ok (.invokevirtual 99, 3) := by decide +kernel
theorem dX0_objectionToPrint_27 : decode cX0_objectionToPrint 27 = .ok (.astore 5, 2) := by decide +kernel
theorem dX0_objectionToPrint_29 : decode cX0_objectionToPrint 29 = .ok (.aload 5, 2) := by decide +kernel
theorem dX0_objectionToPrint_31 : decode cX0_objectionToPrint 31 = .ok (.ifnull 18, 3) := by decide +kernel
theorem dX0_objectionToPrint_34 : decode cX0_objectionToPrint 34 = .ok (.new 91, 3) := by decide +kernel
theorem dX0_objectionToPrint_37 : decode cX0_objectionToPrint 37 = .ok (.dup, 1) := by decide +kernel
theorem dX0_objectionToPrint_38 : decode cX0_objectionToPrint 38 = .ok (.iconst 3, 1) := by decide +kernel
theorem dX0_objectionToPrint_39 : decode cX0_objectionToPrint 39 = .ok (.aload 5, 2) := by decide +kernel
theorem dX0_objectionToPrint_41 : decode cX0_objectionToPrint 41 = .ok (.getfield 56, 3) := by decide +kernel
theorem dX0_objectionToPrint_44 : decode cX0_objectionToPrint 44 = .ok (.aconst_null, 1) := by decide +kernel
theorem dX0_objectionToPrint_45 : decode cX0_objectionToPrint 45 = .ok (.invokespecial 93, 3) := by decide +kernel
theorem dX0_objectionToPrint_48 : decode cX0_objectionToPrint 48 = .ok (.areturn, 1) := by decide +kernel
theorem dX0_objectionToPrint_49 : decode cX0_objectionToPrint 49 = .ok (.aload_n 0, 1) := by decide +kernel
theorem dX0_objectionToPrint_50 : decode cX0_objectionToPrint 50 = .ok (.iload_n 3, 1) := by decide +kernel
theorem dX0_objectionToPrint_51 : decode cX0_objectionToPrint 51 = .ok (.iload 4, 2) := by decide +kernel
theorem dX0_objectionToPrint_53 : decode cX0_objectionToPrint 53 = .ok (.invokevirtual 103, 3) := by decide +kernel
theorem dX0_objectionToPrint_56 : decode cX0_objectionToPrint 56 = .ok (.areturn, 1) := by decide +kernel
set_option maxRecDepth 20000 in
theorem ggX0_objectionToMove_X3_distanceTo : GoodIn wsX0_objectionToMove wsX3_distanceTo := goodIn_r _ [8, 9, 10, 11, 12, 13, 14, 46, 47, 48, 49, 50, 51, 52, 53, 54, 55] (by decide +kernel) (by decide +kernel)
set_option maxRecDepth 20000 in
theorem gX0_objectionToMove_X3_distanceTo : GoodIn wsX0_objectionToMove (wsV RX0 107 RX3 yX3_distanceTo wsX3_distanceTo) := goodIn_app (goodIn_of _ (by decide +kernel)) ggX0_objectionToMove_X3_distanceTo
set_option maxRecDepth 20000 in
theorem ggX0_objectionToMove_X5_init : GoodIn wsX0_objectionToMove wsX5_init := goodIn_r _ [17, 18, 19, 20, 21, 22, 23, 43, 44, 45] (by decide +kernel) (by decide +kernel)
set_option maxRecDepth 20000 in
theorem gX0_objectionToMove_X5_init : GoodIn wsX0_objectionToMove (wsX5_init) := ggX0_objectionToMove_X5_init
set_option maxRecDepth 20000 in
theorem ggX0_objectionToMove_X0_objectionToCell : GoodIn wsX0_objectionToMove wsX0_objectionToCell := goodIn_r _ [28, 1, 2, 3, 29, 30, 31, 32, 33, 27, 34, 15, 16, 17, 18, 19, 20, 21, 22, 23, 35, 36, 37, 38, 39, 40, 41, 42, 43, 44, 45, 56, 57, 58, 59, 60, 61, 62, 46, 47, 48, 49, 50, 51, 52, 53, 54, 55] (by decide +kernel) (by decide +kernel)
set_option maxRecDepth 20000 in
theorem gX0_objectionToMove_X0_objectionToCell : GoodIn wsX0_objectionToMove (wsV RX0 103 RX0 yX0_objectionToCell wsX0_objectionToCell) := goodIn_app (goodIn_of _ (by decide +kernel)) ggX0_objectionToMove_X0_objectionToCell
theorem dX0_objectionToMove_0 : decode cX0_objectionToMove 0 = .ok (.aload_n 1, 1) := by decide +kernel
theorem dX0_objectionToMove_1 : decode cX0_objectionToMove 1 = .ok (.iload_n 2, 1) := by decide +kernel
theorem dX0_objectionToMove_2 : decode cX0_objectionToMove 2 = .ok (.iload_n 3, 1) := by decide +kernel
theorem dX0_objectionToMove_3 : decode cX0_objectionToMove 3 = .ok (.invokevirtual 107, 3) := by decide +kernel
theorem dX0_objectionToMove_6 : decode cX0_objectionToMove 6 = .ok (.istore 4, 2) := by decide +kernel
theorem dX0_objectionToMove_8 : decode cX0_objectionToMove 8 = .ok (.iload 4, 2) := by decide +kernel
theorem dX0_objectionToMove_10 : decode cX0_objectionToMove 10 = .ok (.iconst 1, 1) := by decide +kernel
theorem dX0_objectionToMove_11 : decode cX0_objectionToMove 11 = .ok (.if_icmp .lt 9, 3) := by decide +kernel
theorem dX0_objectionToMove_14 : decode cX0_objectionToMove 14 = .ok (.iload 4, 2) := by decide +kernel
theorem dX0_objectionToMove_16 : decode cX0_objectionToMove 16 = .ok (.iconst 2, 1) := by decide +kernel
theorem dX0_objectionToMove_17 : decode cX0_objectionToMove 17 = .ok (.if_icmp .le 16, 3) := by decide +kernel
theorem dX0_objectionToMove_20 : decode cX0_objectionToMove 20 = .ok (.new 91, 3) := by decide +kernel
theorem dX0_objectionToMove_23 : decode cX0_objectionToMove 23 = .ok (.dup, 1) := by decide +kernel
theorem dX0_objectionToMove_24 : decode cX0_objectionToMove 24 = .ok (.bipush 6, 2) := by decide +kernel
theorem dX0_objectionToMove_26 : decode cX0_objectionToMove 26 = .ok (.iload 4, 2) := by decide +kernel
theorem dX0_objectionToMove_28 : decode cX0_objectionToMove 28 = .ok (.aconst_null, 1) := by decide +kernel
theorem dX0_objectionToMove_29 : decode cX0_objectionToMove 29 = .ok (.invokespecial 93, 3) := by decide +kernel
theorem dX0_objectionToMove_32 : decode cX0_objectionToMove 32 = .ok (.areturn, 1) := by decide +kernel
theorem dX0_objectionToMove_33 : decode cX0_objectionToMove 33 = .ok (.aload_n 0, 1) := by decide +kernel
theorem dX0_objectionToMove_34 : decode cX0_objectionToMove 34 = .ok (.iload_n 2, 1) := by decide +kernel
theorem dX0_objectionToMove_35 : decode cX0_objectionToMove 35 = .ok (.iload_n 3, 1) := by decide +kernel
theorem dX0_objectionToMove_36 : decode cX0_objectionToMove 36 = .ok (.invokevirtual 103, 3) := by decide +kernel
theorem dX0_objectionToMove_39 : decode cX0_objectionToMove 39 = .ok (.areturn, 1) := by decide +kernel
set_option maxRecDepth 20000 in
theorem ggX0_objectionToCell_X0_isUnderWater : GoodIn wsX0_objectionToCell wsX0_isUnderWater := goodIn_r _ [10, 4, 31, 32, 33, 34, 35, 36, 37] (by decide +kernel) (by decide +kernel)
set_option maxRecDepth 20000 in
theorem gX0_objectionToCell_X0_isUnderWater : GoodIn wsX0_objectionToCell (wsV RX0 110 RX0 yX0_isUnderWater wsX0_isUnderWater) := goodIn_app (goodIn_of _ (by decide +kernel)) ggX0_objectionToCell_X0_isUnderWater
set_option maxRecDepth 20000 in
theorem ggX0_objectionToCell_X5_init : GoodIn wsX0_objectionToCell wsX5_init := goodIn_r _ [13, 14, 15, 16, 17, 18, 19, 28, 29, 30] (by decide +kernel) (by decide +kernel)
set_option maxRecDepth 20000 in
theorem gX0_objectionToCell_X5_init : GoodIn wsX0_objectionToCell (wsX5_init) := ggX0_objectionToCell_X5_init
set_option maxRecDepth 20000 in
theorem ggX0_objectionToCell_X0_inCell : GoodIn wsX0_objectionToCell wsX0_inCell := goodIn_r _ [23, 24, 25, 26, 27, 31, 32, 33, 34, 35, 36, 37, 38, 39, 40, 41, 42, 43, 44, 45, 46, 47] (by decide +kernel) (by decide +kernel)
set_option maxRecDepth 20000 in
theorem gX0_objectionToCell_X0_inCell : GoodIn wsX0_objectionToCell (wsV RX0 113 RX0 yX0_inCell wsX0_inCell) := goodIn_app (goodIn_of _ (by decide +kernel)) ggX0_objectionToCell_X0_inCell
theorem dX0_objectionToCell_0 : decode cX0_objectionToCell 0 = .ok (.aload_n 0, 1) := by decide +kernel
theorem dX0_objectionToCell_1 : decode cX0_objectionToCell 1 = .ok (.iload_n 1, 1) := by decide +kernel
theorem dX0_objectionToCell_2 : decode cX0_objectionToCell 2 = .ok (.invokevirtual 110, 3) := by decide +kernel
theorem dX0_objectionToCell_5 : decode cX0_objectionToCell 5 = .ok (.ifCond .eq 17, 3) := by decide +kernel
theorem dX0_objectionToCell_8 : decode cX0_objectionToCell 8 = .ok (.new 91, 3) := by decide +kernel
theorem dX0_objectionToCell_11 : decode cX0_objectionToCell 11 = .ok (.dup, 1) := by decide +kernel
theorem dX0_objectionToCell_12 : decode cX0_objectionToCell 12 = .ok (.iconst 4, 1) := by decide +kernel
theorem dX0_objectionToCell_13 : decode cX0_objectionToCell 13 = .ok (.aload_n 0, 1) := by decide +kernel
theorem dX0_objectionToCell_14 : decode cX0_objectionToCell 14 = .ok (.getfield 32, 3) := by decide +kernel
theorem dX0_objectionToCell_17 : decode cX0_objectionToCell 17 = .ok (.aconst_null, 1) := by decide +kernel
theorem dX0_objectionToCell_18 : decode cX0_objectionToCell 18 = .ok (.invokespecial 93, 3) := by decide +kernel
theorem dX0_objectionToCell_21 : decode cX0_objectionToCell 21 = .ok (.areturn, 1) := by decide +kernel
theorem dX0_objectionToCell_22 : decode cX0_objectionToCell 22 = .ok (.aload_n 0, 1) := by decide +kernel
theorem dX0_objectionToCell_23 : decode cX0_objectionToCell 23 = .ok (.iload_n 1, 1) := by decide +kernel
theorem dX0_objectionToCell_24 : decode cX0_objectionToCell 24 = .ok (.iload_n 2, 1) := by decide +kernel
theorem dX0_objectionToCell_25 : decode cX0_objectionToCell 25 = .ok (.invokevirtual 113, 3) := by decide +kernel
theorem dX0_objectionToCell_28 : decode cX0_objectionToCell 28 = .ok (.astore_n 3, 1) := by decide +kernel
theorem dX0_objectionToCell_29 : decode cX0_objectionToCell 29 = .ok (.aload_n 3, 1) := by decide +kernel
theorem dX0_objectionToCell_30 : decode cX0_objectionToCell 30 = .ok (.ifnonnull 7, 3) := by decide +kernel
theorem dX0_objectionToCell_33 : decode cX0_objectionToCell 33 = .ok (.aconst_null, 1) := by decide +kernel
theorem dX0_objectionToCell_34 : decode cX0_objectionToCell 34 = .ok (.goto 16, 3) := by decide +kernel
theorem dX0_objectionToCell_37 : decode cX0_objectionToCell 37 = .ok (.new 91, 3) := by decide +kernel
theorem dX0_objectionToCell_40 : decode cX0_objectionToCell 40 = .ok (.dup, 1) := by decide +kernel
theorem dX0_objectionToCell_41 : decode cX0_objectionToCell 41 = .ok (.iconst 5, 1) := by decide +kernel
theorem dX0_objectionToCell_42 : decode cX0_objectionToCell 42 = .ok (.aload_n 3, 1) := by decide +kernel
theorem dX0_objectionToCell_43 : decode cX0_objectionToCell 43 = .ok (.getfield 56, 3) := by decide +kernel
theorem dX0_objectionToCell_46 : decode cX0_objectionToCell 46 = .ok (.aconst_null, 1) := by decide +kernel
theorem dX0_objectionToCell_47 : decode cX0_objectionToCell 47 = .ok (.invokespecial 93, 3) := by decide +kernel
theorem dX0_objectionToCell_50 : decode cX0_objectionToCell 50 = .ok (.areturn, 1) := by decide +kernel
set_option maxRecDepth 20000 in
theorem ggX0_objectionToDoubt_X5_init : GoodIn wsX0_objectionToDoubt wsX5_init := goodIn_r _ [7, 8, 9, 10, 11, 12, 13, 24, 25, 26] (by decide +kernel) (by decide +kernel)
set_option maxRecDepth 20000 in
theorem gX0_objectionToDoubt_X5_init : GoodIn wsX0_objectionToDoubt (wsX5_init) := ggX0_objectionToDoubt_X5_init
theorem dX0_objectionToDoubt_0 : decode cX0_objectionToDoubt 0 = .ok (.aload_n 1, 1) := by decide +kernel
theorem dX0_objectionToDoubt_1 : decode cX0_objectionToDoubt 1 = .ok (.getfield 84, 3) := by decide +kernel
theorem dX0_objectionToDoubt_4 : decode cX0_objectionToDoubt 4 = .ok (.iconst 3, 1) := by decide +kernel
theorem dX0_objectionToDoubt_5 : decode cX0_objectionToDoubt 5 = .ok (.if_icmp .lt 15, 3) := by decide +kernel
theorem dX0_objectionToDoubt_8 : decode cX0_objectionToDoubt 8 = .ok (.new 91, 3) := by decide +kernel
theorem dX0_objectionToDoubt_11 : decode cX0_objectionToDoubt 11 = .ok (.dup, 1) := by decide +kernel
theorem dX0_objectionToDoubt_12 : decode cX0_objectionToDoubt 12 = .ok (.bipush 7, 2) := by decide +kernel
theorem dX0_objectionToDoubt_14 : decode cX0_objectionToDoubt 14 = .ok (.iconst 3, 1) := by decide +kernel
theorem dX0_objectionToDoubt_15 : decode cX0_objectionToDoubt 15 = .ok (.aconst_null, 1) := by decide +kernel
theorem dX0_objectionToDoubt_16 : decode cX0_objectionToDoubt 16 = .ok (.invokespecial 93, 3) := by decide +kernel
theorem dX0_objectionToDoubt_19 : decode cX0_objectionToDoubt 19 = .ok (.areturn, 1) := by decide +kernel
theorem dX0_objectionToDoubt_20 : decode cX0_objectionToDoubt 20 = .ok (.aconst_null, 1) := by decide +kernel
theorem dX0_objectionToDoubt_21 : decode cX0_objectionToDoubt 21 = .ok (.areturn, 1) := by decide +kernel
set_option maxRecDepth 20000 in
theorem ggX0_objectionToConfirmation_X5_init : GoodIn wsX0_objectionToConfirmation wsX5_init := goodIn_r _ [7, 8, 9, 10, 11, 12, 13, 24, 25, 26] (by decide +kernel) (by decide +kernel)
set_option maxRecDepth 20000 in
theorem gX0_objectionToConfirmation_X5_init : GoodIn wsX0_objectionToConfirmation (wsX5_init) := ggX0_objectionToConfirmation_X5_init
theorem dX0_objectionToConfirmation_0 : decode cX0_objectionToConfirmation 0 = .ok (.aload_n 1, 1) := by decide +kernel
theorem dX0_objectionToConfirmation_1 : decode cX0_objectionToConfirmation 1 = .ok (.getfield 84, 3) := by decide +kernel
theorem dX0_objectionToConfirmation_4 : decode cX0_objectionToConfirmation 4 = .ok (.ifCond .le 7, 3) := by decide +kernel
theorem dX0_objectionToConfirmation_7 : decode cX0_objectionToConfirmation 7 = .ok (.aconst_null, 1) := by decide +kernel
theorem dX0_objectionToConfirmation_8 : decode cX0_objectionToConfirmation 8 = .ok (.goto 14, 3) := by decide +kernel
theorem dX0_objectionToConfirmation_11 : decode cX0_objectionToConfirmation 11 = .ok (.new 91, 3) := by decide +kernel
theorem dX0_objectionToConfirmation_14 : decode cX0_objectionToConfirmation 14 = .ok (.dup, 1) := by decide +kernel
theorem dX0_objectionToConfirmation_15 : decode cX0_objectionToConfirmation 15 = .ok (.bipush 8, 2) := by decide +kernel
theorem dX0_objectionToConfirmation_17 : decode cX0_objectionToConfirmation 17 = .ok (.iconst 0, 1) := by decide +kernel
theorem dX0_objectionToConfirmation_18 : decode cX0_objectionToConfirmation 18 = .ok (.aconst_null, 1) := by decide +kernel
theorem dX0_objectionToConfirmation_19 : decode cX0_objectionToConfirmation 19 = .ok (.invokespecial 93, 3) := by decide +kernel
theorem dX0_objectionToConfirmation_22 : decode cX0_objectionToConfirmation 22 = .ok (.areturn, 1) := by decide +kernel
set_option maxRecDepth 20000 in
theorem ggX0_objectionToTide_X5_init : GoodIn wsX0_objectionToTide wsX5_init := goodIn_r _ [7, 8, 9, 10, 11, 12, 13, 21, 22, 23] (by decide +kernel) (by decide +kernel)
set_option maxRecDepth 20000 in
theorem gX0_objectionToTide_X5_init : GoodIn wsX0_objectionToTide (wsX5_init) := ggX0_objectionToTide_X5_init
theorem dX0_objectionToTide_0 : decode cX0_objectionToTide 0 = .ok (.iload_n 1, 1) := by decide +kernel
theorem dX0_objectionToTide_1 : decode cX0_objectionToTide 1 = .ok (.aload_n 0, 1) := by decide +kernel
theorem dX0_objectionToTide_2 : decode cX0_objectionToTide 2 = .ok (.getfield 32, 3) := by decide +kernel
theorem dX0_objectionToTide_5 : decode cX0_objectionToTide 5 = .ok (.if_icmp .eq 7, 3) := by decide +kernel
theorem dX0_objectionToTide_8 : decode cX0_objectionToTide 8 = .ok (.aconst_null, 1) := by decide +kernel
theorem dX0_objectionToTide_9 : decode cX0_objectionToTide 9 = .ok (.goto 17, 3) := by decide +kernel
theorem dX0_objectionToTide_12 : decode cX0_objectionToTide 12 = .ok (.new 91, 3) := by decide +kernel
theorem dX0_objectionToTide_15 : decode cX0_objectionToTide 15 = .ok (.dup, 1) := by decide +kernel
theorem dX0_objectionToTide_16 : decode cX0_objectionToTide 16 = .ok (.bipush 9, 2) := by decide +kernel
theorem dX0_objectionToTide_18 : decode cX0_objectionToTide 18 = .ok (.aload_n 0, 1) := by decide +kernel
theorem dX0_objectionToTide_19 : decode cX0_objectionToTide 19 = .ok (.getfield 32, 3) := by decide +kernel
theorem dX0_objectionToTide_22 : decode cX0_objectionToTide 22 = .ok (.aconst_null, 1) := by decide +kernel
theorem dX0_objectionToTide_23 : decode cX0_objectionToTide 23 = .ok (.invokespecial 93, 3) := by decide +kernel
theorem dX0_objectionToTide_26 : decode cX0_objectionToTide 26 = .ok (.areturn, 1) := by decide +kernel
theorem dX0_putTrack_0 : decode cX0_putTrack 0 = .ok (.aload_n 0, 1) := by decide +kernel
theorem dX0_putTrack_1 : decode cX0_putTrack 1 = .ok (.getfield 11, 3) := by decide +kernel
theorem dX0_putTrack_4 : decode cX0_putTrack 4 = .ok (.astore_n 2, 1) := by decide +kernel
theorem dX0_putTrack_5 : decode cX0_putTrack 5 = .ok (.aload_n 2, 1) := by decide +kernel
theorem dX0_putTrack_6 : decode cX0_putTrack 6 = .ok (.arraylength, 1) := by decide +kernel
theorem dX0_putTrack_7 : decode cX0_putTrack 7 = .ok (.istore_n 3, 1) := by decide +kernel
theorem dX0_putTrack_8 : decode cX0_putTrack 8 = .ok (.iconst 0, 1) := by decide +kernel
theorem dX0_putTrack_9 : decode cX0_putTrack 9 = .ok (.istore 4, 2) := by decide +kernel
theorem dX0_putTrack_11 : decode cX0_putTrack 11 = .ok (.iload 4, 2) := by decide +kernel
theorem dX0_putTrack_13 : decode cX0_putTrack 13 = .ok (.iload_n 3, 1) := by decide +kernel
theorem dX0_putTrack_14 : decode cX0_putTrack 14 = .ok (.if_icmp .ge 60, 3) := by decide +kernel
theorem dX0_putTrack_17 : decode cX0_putTrack 17 = .ok (.aload_n 2, 1) := by decide +kernel
theorem dX0_putTrack_18 : decode cX0_putTrack 18 = .ok (.iload 4, 2) := by decide +kernel
theorem dX0_putTrack_20 : decode cX0_putTrack 20 = .ok (.aaload, 1) := by decide +kernel
theorem dX0_putTrack_21 : decode cX0_putTrack 21 = .ok (.astore 5, 2) := by decide +kernel
theorem dX0_putTrack_23 : decode cX0_putTrack 23 = .ok (.aload 5, 2) := by decide +kernel
theorem dX0_putTrack_25 : decode cX0_putTrack 25 = .ok (.getfield 48, 3) := by decide +kernel
theorem dX0_putTrack_28 : decode cX0_putTrack 28 = .ok (.ifCond .ne 40, 3) := by decide +kernel
theorem dX0_putTrack_31 : decode cX0_putTrack 31 = .ok (.aload 5, 2) := by decide +kernel
theorem dX0_putTrack_33 : decode cX0_putTrack 33 = .ok (.iconst 1, 1) := by decide +kernel
theorem dX0_putTrack_34 : decode cX0_putTrack 34 = .ok (.putfield 48, 3) := by decide +kernel
theorem dX0_putTrack_37 : decode cX0_putTrack 37 = .ok (.aload 5, 2) := by decide +kernel
theorem dX0_putTrack_39 : decode cX0_putTrack 39 = .ok (.aload_n 0, 1) := by decide +kernel
theorem dX0_putTrack_40 : decode cX0_putTrack 40 = .ok (.getfield 36, 3) := by decide +kernel
theorem dX0_putTrack_43 : decode cX0_putTrack 43 = .ok (.putfield 52, 3) := by decide +kernel
theorem dX0_putTrack_46 : decode cX0_putTrack 46 = .ok (.aload 5, 2) := by decide +kernel
theorem dX0_putTrack_48 : decode cX0_putTrack 48 = .ok (.iload_n 1, 1) := by decide +kernel
theorem dX0_putTrack_49 : decode cX0_putTrack 49 = .ok (.putfield 116, 3) := by decide +kernel
theorem dX0_putTrack_52 : decode cX0_putTrack 52 = .ok (.aload_n 0, 1) := by decide +kernel
theorem dX0_putTrack_53 : decode cX0_putTrack 53 = .ok (.dup, 1) := by decide +kernel
theorem dX0_putTrack_54 : decode cX0_putTrack 54 = .ok (.getfield 36, 3) := by decide +kernel
theorem dX0_putTrack_57 : decode cX0_putTrack 57 = .ok (.iconst 1, 1) := by decide +kernel
theorem dX0_putTrack_58 : decode cX0_putTrack 58 = .ok (.iadd, 1) := by decide +kernel
theorem dX0_putTrack_59 : decode cX0_putTrack 59 = .ok (.putfield 36, 3) := by decide +kernel
theorem dX0_putTrack_62 : decode cX0_putTrack 62 = .ok (.aload 5, 2) := by decide +kernel
theorem dX0_putTrack_64 : decode cX0_putTrack 64 = .ok (.getfield 52, 3) := by decide +kernel
theorem dX0_putTrack_67 : decode cX0_putTrack 67 = .ok (.ireturn, 1) := by decide +kernel
theorem dX0_putTrack_68 : decode cX0_putTrack 68 = .ok (.iinc 4 1, 3) := by decide +kernel
theorem dX0_putTrack_71 : decode cX0_putTrack 71 = .ok (.goto (-60), 3) := by decide +kernel
theorem dX0_putTrack_74 : decode cX0_putTrack 74 = .ok (.iconst (-1), 1) := by decide +kernel
theorem dX0_putTrack_75 : decode cX0_putTrack 75 = .ok (.ireturn, 1) := by decide +kernel
set_option maxRecDepth 20000 in
theorem ggX0_dropTrack_X3_isOn : GoodIn wsX0_dropTrack wsX3_isOn := goodIn_r _ [9, 10, 11, 22, 23, 24, 25, 26, 27, 28, 29, 30, 31] (by decide +kernel) (by decide +kernel)
set_option maxRecDepth 20000 in
theorem gX0_dropTrack_X3_isOn : GoodIn wsX0_dropTrack (wsV RX0 71 RX3 yX3_isOn wsX3_isOn) := goodIn_app (goodIn_of _ (by decide +kernel)) ggX0_dropTrack_X3_isOn
theorem dX0_dropTrack_0 : decode cX0_dropTrack 0 = .ok (.iconst 0, 1) := by decide +kernel
theorem dX0_dropTrack_1 : decode cX0_dropTrack 1 = .ok (.istore_n 2, 1) := by decide +kernel
theorem dX0_dropTrack_2 : decode cX0_dropTrack 2 = .ok (.aload_n 0, 1) := by decide +kernel
theorem dX0_dropTrack_3 : decode cX0_dropTrack 3 = .ok (.getfield 20, 3) := by decide +kernel
theorem dX0_dropTrack_6 : decode cX0_dropTrack 6 = .ok (.astore_n 3, 1) := by decide +kernel
theorem dX0_dropTrack_7 : decode cX0_dropTrack 7 = .ok (.aload_n 3, 1) := by decide +kernel
theorem dX0_dropTrack_8 : decode cX0_dropTrack 8 = .ok (.arraylength, 1) := by decide +kernel
theorem dX0_dropTrack_9 : decode cX0_dropTrack 9 = .ok (.istore 4, 2) := by decide +kernel
theorem dX0_dropTrack_11 : decode cX0_dropTrack 11 = .ok (.iconst 0, 1) := by decide +kernel
theorem dX0_dropTrack_12 : decode cX0_dropTrack 12 = .ok (.istore 5, 2) := by decide +kernel
theorem dX0_dropTrack_14 : decode cX0_dropTrack 14 = .ok (.iload 5, 2) := by decide +kernel
theorem dX0_dropTrack_16 : decode cX0_dropTrack 16 = .ok (.iload 4, 2) := by decide +kernel
theorem dX0_dropTrack_18 : decode cX0_dropTrack 18 = .ok (.if_icmp .ge 36, 3) := by decide +kernel
theorem dX0_dropTrack_21 : decode cX0_dropTrack 21 = .ok (.aload_n 3, 1) := by decide +kernel
theorem dX0_dropTrack_22 : decode cX0_dropTrack 22 = .ok (.iload 5, 2) := by decide +kernel
theorem dX0_dropTrack_24 : decode cX0_dropTrack 24 = .ok (.aaload, 1) := by decide +kernel
theorem dX0_dropTrack_25 : decode cX0_dropTrack 25 = .ok (.astore 6, 2) := by decide +kernel
theorem dX0_dropTrack_27 : decode cX0_dropTrack 27 = .ok (.aload 6, 2) := by decide +kernel
theorem dX0_dropTrack_29 : decode cX0_dropTrack 29 = .ok (.aload_n 1, 1) := by decide +kernel
theorem dX0_dropTrack_30 : decode cX0_dropTrack 30 = .ok (.getfield 52, 3) := by decide +kernel
theorem dX0_dropTrack_33 : decode cX0_dropTrack 33 = .ok (.invokevirtual 71, 3) := by decide +kernel
theorem dX0_dropTrack_36 : decode cX0_dropTrack 36 = .ok (.ifCond .eq 12, 3) := by decide +kernel
theorem dX0_dropTrack_39 : decode cX0_dropTrack 39 = .ok (.aload 6, 2) := by decide +kernel
theorem dX0_dropTrack_41 : decode cX0_dropTrack 41 = .ok (.iconst 0, 1) := by decide +kernel
theorem dX0_dropTrack_42 : decode cX0_dropTrack 42 = .ok (.putfield 55, 3) := by decide +kernel
theorem dX0_dropTrack_45 : decode cX0_dropTrack 45 = .ok (.iinc 2 1, 3) := by decide +kernel
theorem dX0_dropTrack_48 : decode cX0_dropTrack 48 = .ok (.iinc 5 1, 3) := by decide +kernel
theorem dX0_dropTrack_51 : decode cX0_dropTrack 51 = .ok (.goto (-37), 3) := by decide +kernel
theorem dX0_dropTrack_54 : decode cX0_dropTrack 54 = .ok (.aload_n 1, 1) := by decide +kernel
theorem dX0_dropTrack_55 : decode cX0_dropTrack 55 = .ok (.iconst 0, 1) := by decide +kernel
theorem dX0_dropTrack_56 : decode cX0_dropTrack 56 = .ok (.putfield 48, 3) := by decide +kernel
theorem dX0_dropTrack_59 : decode cX0_dropTrack 59 = .ok (.iload_n 2, 1) := by decide +kernel
theorem dX0_dropTrack_60 : decode cX0_dropTrack 60 = .ok (.ireturn, 1) := by decide +kernel
set_option maxRecDepth 20000 in
theorem ggX0_putPrint_X0_countPrintsBetween : GoodIn wsX0_putPrint wsX0_countPrintsBetween := goodIn_r _ [17, 1, 6, 18, 19, 20, 21, 22, 23, 24, 25, 26, 27, 28, 29, 30, 31, 32, 33, 34, 35, 36, 37, 38, 39, 40, 41] (by decide +kernel) (by decide +kernel)
set_option maxRecDepth 20000 in
theorem gX0_putPrint_X0_countPrintsBetween : GoodIn wsX0_putPrint (wsV RX0 67 RX0 yX0_countPrintsBetween wsX0_countPrintsBetween) := goodIn_app (goodIn_of _ (by decide +kernel)) ggX0_putPrint_X0_countPrintsBetween
theorem dX0_putPrint_0 : decode cX0_putPrint 0 = .ok (.aload_n 0, 1) := by decide +kernel
theorem dX0_putPrint_1 : decode cX0_putPrint 1 = .ok (.iload_n 1, 1) := by decide +kernel
theorem dX0_putPrint_2 : decode cX0_putPrint 2 = .ok (.iload_n 2, 1) := by decide +kernel
theorem dX0_putPrint_3 : decode cX0_putPrint 3 = .ok (.sipush 1000, 3) := by decide +kernel
theorem dX0_putPrint_6 : decode cX0_putPrint 6 = .ok (.invokevirtual 67, 3) := by decide +kernel
theorem dX0_putPrint_9 : decode cX0_putPrint 9 = .ok (.ifCond .le 7, 3) := by decide +kernel
theorem dX0_putPrint_12 : decode cX0_putPrint 12 = .ok (.iconst 1, 1) := by decide +kernel
theorem dX0_putPrint_13 : decode cX0_putPrint 13 = .ok (.goto 4, 3) := by decide +kernel
theorem dX0_putPrint_16 : decode cX0_putPrint 16 = .ok (.iconst 0, 1) := by decide +kernel
theorem dX0_putPrint_17 : decode cX0_putPrint 17 = .ok (.istore 7, 2) := by decide +kernel
theorem dX0_putPrint_19 : decode cX0_putPrint 19 = .ok (.aload_n 0, 1) := by decide +kernel
theorem dX0_putPrint_20 : decode cX0_putPrint 20 = .ok (.getfield 20, 3) := by decide +kernel
theorem dX0_putPrint_23 : decode cX0_putPrint 23 = .ok (.astore 8, 2) := by decide +kernel
theorem dX0_putPrint_25 : decode cX0_putPrint 25 = .ok (.aload 8, 2) := by decide +kernel
theorem dX0_putPrint_27 : decode cX0_putPrint 27 = .ok (.arraylength, 1) := by decide +kernel
theorem dX0_putPrint_28 : decode cX0_putPrint 28 = .ok (.istore 9, 2) := by decide +kernel
theorem dX0_putPrint_30 : decode cX0_putPrint 30 = .ok (.iconst 0, 1) := by decide +kernel
theorem dX0_putPrint_31 : decode cX0_putPrint 31 = .ok (.istore 10, 2) := by decide +kernel
theorem dX0_putPrint_33 : decode cX0_putPrint 33 = .ok (.iload 10, 2) := by decide +kernel
theorem dX0_putPrint_35 : decode cX0_putPrint 35 = .ok (.iload 9, 2) := by decide +kernel
theorem dX0_putPrint_37 : decode cX0_putPrint 37 = .ok (.if_icmp .ge 107, 3) := by decide +kernel
theorem dX0_putPrint_40 : decode cX0_putPrint 40 = .ok (.aload 8, 2) := by decide +kernel
theorem dX0_putPrint_42 : decode cX0_putPrint 42 = .ok (.iload 10, 2) := by decide +kernel
theorem dX0_putPrint_44 : decode cX0_putPrint 44 = .ok (.aaload, 1) := by decide +kernel
theorem dX0_putPrint_45 : decode cX0_putPrint 45 = .ok (.astore 11, 2) := by decide +kernel
theorem dX0_putPrint_47 : decode cX0_putPrint 47 = .ok (.aload 11, 2) := by decide +kernel
theorem dX0_putPrint_49 : decode cX0_putPrint 49 = .ok (.getfield 55, 3) := by decide +kernel
theorem dX0_putPrint_52 : decode cX0_putPrint 52 = .ok (.ifCond .ne 86, 3) := by decide +kernel
theorem dX0_putPrint_55 : decode cX0_putPrint 55 = .ok (.aload 11, 2) := by decide +kernel
theorem dX0_putPrint_57 : decode cX0_putPrint 57 = .ok (.iconst 1, 1) := by decide +kernel
theorem dX0_putPrint_58 : decode cX0_putPrint 58 = .ok (.putfield 55, 3) := by decide +kernel
theorem dX0_putPrint_61 : decode cX0_putPrint 61 = .ok (.aload 11, 2) := by decide +kernel
theorem dX0_putPrint_63 : decode cX0_putPrint 63 = .ok (.aload_n 0, 1) := by decide +kernel
theorem dX0_putPrint_64 : decode cX0_putPrint 64 = .ok (.getfield 39, 3) := by decide +kernel
theorem dX0_putPrint_67 : decode cX0_putPrint 67 = .ok (.putfield 56, 3) := by decide +kernel
theorem dX0_putPrint_70 : decode cX0_putPrint 70 = .ok (.aload 11, 2) := by decide +kernel
theorem dX0_putPrint_72 : decode cX0_putPrint 72 = .ok (.iload_n 1, 1) := by decide +kernel
theorem dX0_putPrint_73 : decode cX0_putPrint 73 = .ok (.putfield 81, 3) := by decide +kernel
theorem dX0_putPrint_76 : decode cX0_putPrint 76 = .ok (.aload 11, 2) := by decide +kernel
theorem dX0_putPrint_78 : decode cX0_putPrint 78 = .ok (.iload_n 2, 1) := by decide +kernel
theorem dX0_putPrint_79 : decode cX0_putPrint 79 = .ok (.putfield 75, 3) := by decide +kernel
theorem dX0_putPrint_82 : decode cX0_putPrint 82 = .ok (.aload 11, 2) := by decide +kernel
theorem dX0_putPrint_84 : decode cX0_putPrint 84 = .ok (.iload_n 3, 1) := by decide +kernel
theorem dX0_putPrint_85 : decode cX0_putPrint 85 = .ok (.putfield 61, 3) := by decide +kernel
theorem dX0_putPrint_88 : decode cX0_putPrint 88 = .ok (.aload 11, 2) := by decide +kernel
theorem dX0_putPrint_90 : decode cX0_putPrint 90 = .ok (.iload 4, 2) := by decide +kernel
theorem dX0_putPrint_92 : decode cX0_putPrint 92 = .ok (.putfield 78, 3) := by decide +kernel
theorem dX0_putPrint_95 : decode cX0_putPrint 95 = .ok (.aload 11, 2) := by decide +kernel
theorem dX0_putPrint_97 : decode cX0_putPrint 97 = .ok (.iload 5, 2) := by decide +kernel
theorem dX0_putPrint_99 : decode cX0_putPrint 99 = .ok (.putfield 119, 3) := by decide +kernel
theorem dX0_putPrint_102 : decode cX0_putPrint 102 = .ok (.aload 11, 2) := by decide +kernel
theorem dX0_putPrint_104 : decode cX0_putPrint 104 = .ok (.iload 6, 2) := by decide +kernel
theorem dX0_putPrint_106 : decode cX0_putPrint 106 = .ok (.putfield 122, 3) := by decide +kernel
theorem dX0_putPrint_109 : decode cX0_putPrint 109 = .ok (.aload 11, 2) := by decide +kernel
theorem dX0_putPrint_111 : decode cX0_putPrint 111 = .ok (.iconst 0, 1) := by decide +kernel
theorem dX0_putPrint_112 : decode cX0_putPrint 112 = .ok (.putfield 84, 3) := by decide +kernel
theorem dX0_putPrint_115 : decode cX0_putPrint 115 = .ok (.aload 11, 2) := by decide +kernel
theorem dX0_putPrint_117 : decode cX0_putPrint 117 = .ok (.iload 7, 2) := by decide +kernel
theorem dX0_putPrint_119 : decode cX0_putPrint 119 = .ok (.putfield 64, 3) := by decide +kernel
theorem dX0_putPrint_122 : decode cX0_putPrint 122 = .ok (.aload_n 0, 1) := by decide +kernel
theorem dX0_putPrint_123 : decode cX0_putPrint 123 = .ok (.dup, 1) := by decide +kernel
theorem dX0_putPrint_124 : decode cX0_putPrint 124 = .ok (.getfield 39, 3) := by decide +kernel
theorem dX0_putPrint_127 : decode cX0_putPrint 127 = .ok (.iconst 1, 1) := by decide +kernel
theorem dX0_putPrint_128 : decode cX0_putPrint 128 = .ok (.iadd, 1) := by decide +kernel
theorem dX0_putPrint_129 : decode cX0_putPrint 129 = .ok (.putfield 39, 3) := by decide +kernel
theorem dX0_putPrint_132 : decode cX0_putPrint 132 = .ok (.aload 11, 2) := by decide +kernel
theorem dX0_putPrint_134 : decode cX0_putPrint 134 = .ok (.getfield 56, 3) := by decide +kernel
theorem dX0_putPrint_137 : decode cX0_putPrint 137 = .ok (.ireturn, 1) := by decide +kernel
theorem dX0_putPrint_138 : decode cX0_putPrint 138 = .ok (.iinc 10 1, 3) := by decide +kernel
theorem dX0_putPrint_141 : decode cX0_putPrint 141 = .ok (.goto (-108), 3) := by decide +kernel
theorem dX0_putPrint_144 : decode cX0_putPrint 144 = .ok (.iconst (-1), 1) := by decide +kernel
theorem dX0_putPrint_145 : decode cX0_putPrint 145 = .ok (.ireturn, 1) := by decide +kernel
theorem dX0_dropPrint_0 : decode cX0_dropPrint 0 = .ok (.aload_n 1, 1) := by decide +kernel
theorem dX0_dropPrint_1 : decode cX0_dropPrint 1 = .ok (.iconst 0, 1) := by decide +kernel
theorem dX0_dropPrint_2 : decode cX0_dropPrint 2 = .ok (.putfield 55, 3) := by decide +kernel
theorem dX0_dropPrint_5 : decode cX0_dropPrint 5 = .ok (.return_, 1) := by decide +kernel
set_option maxRecDepth 20000 in
theorem ggX0_moveHeel_X3_distanceTo : GoodIn wsX0_moveHeel wsX3_distanceTo := goodIn_r _ [8, 9, 10, 11, 12, 13, 14, 15, 16, 17, 18, 19, 20, 21, 22, 23, 24] (by decide +kernel) (by decide +kernel)
set_option maxRecDepth 20000 in
theorem gX0_moveHeel_X3_distanceTo : GoodIn wsX0_moveHeel (wsV RX0 107 RX3 yX3_distanceTo wsX3_distanceTo) := goodIn_app (goodIn_of _ (by decide +kernel)) ggX0_moveHeel_X3_distanceTo
theorem dX0_moveHeel_0 : decode cX0_moveHeel 0 = .ok (.aload_n 1, 1) := by decide +kernel
theorem dX0_moveHeel_1 : decode cX0_moveHeel 1 = .ok (.iload_n 2, 1) := by decide +kernel
theorem dX0_moveHeel_2 : decode cX0_moveHeel 2 = .ok (.iload_n 3, 1) := by decide +kernel
theorem dX0_moveHeel_3 : decode cX0_moveHeel 3 = .ok (.invokevirtual 107, 3) := by decide +kernel
theorem dX0_moveHeel_6 : decode cX0_moveHeel 6 = .ok (.istore 4, 2) := by decide +kernel
theorem dX0_moveHeel_8 : decode cX0_moveHeel 8 = .ok (.aload_n 1, 1) := by decide +kernel
theorem dX0_moveHeel_9 : decode cX0_moveHeel 9 = .ok (.iload_n 2, 1) := by decide +kernel
theorem dX0_moveHeel_10 : decode cX0_moveHeel 10 = .ok (.putfield 61, 3) := by decide +kernel
theorem dX0_moveHeel_13 : decode cX0_moveHeel 13 = .ok (.aload_n 1, 1) := by decide +kernel
theorem dX0_moveHeel_14 : decode cX0_moveHeel 14 = .ok (.iload_n 3, 1) := by decide +kernel
theorem dX0_moveHeel_15 : decode cX0_moveHeel 15 = .ok (.putfield 78, 3) := by decide +kernel
theorem dX0_moveHeel_18 : decode cX0_moveHeel 18 = .ok (.aload_n 0, 1) := by decide +kernel
theorem dX0_moveHeel_19 : decode cX0_moveHeel 19 = .ok (.dup, 1) := by decide +kernel
theorem dX0_moveHeel_20 : decode cX0_moveHeel 20 = .ok (.getfield 45, 3) := by decide +kernel
theorem dX0_moveHeel_23 : decode cX0_moveHeel 23 = .ok (.iconst 1, 1) := by decide +kernel
theorem dX0_moveHeel_24 : decode cX0_moveHeel 24 = .ok (.iadd, 1) := by decide +kernel
theorem dX0_moveHeel_25 : decode cX0_moveHeel 25 = .ok (.putfield 45, 3) := by decide +kernel
theorem dX0_moveHeel_28 : decode cX0_moveHeel 28 = .ok (.iload 4, 2) := by decide +kernel
theorem dX0_moveHeel_30 : decode cX0_moveHeel 30 = .ok (.ireturn, 1) := by decide +kernel
set_option maxRecDepth 20000 in
theorem ggX0_moveTide_X0_isUnderWater : GoodIn wsX0_moveTide wsX0_isUnderWater := goodIn_r _ [10, 1, 11, 12, 13, 14, 15, 16, 17] (by decide +kernel) (by decide +kernel)
set_option maxRecDepth 20000 in
theorem gX0_moveTide_X0_isUnderWater : GoodIn wsX0_moveTide (wsV RX0 110 RX0 yX0_isUnderWater wsX0_isUnderWater) := goodIn_app (goodIn_of _ (by decide +kernel)) ggX0_moveTide_X0_isUnderWater
theorem dX0_moveTide_0 : decode cX0_moveTide 0 = .ok (.iconst 0, 1) := by decide +kernel
theorem dX0_moveTide_1 : decode cX0_moveTide 1 = .ok (.istore_n 2, 1) := by decide +kernel
theorem dX0_moveTide_2 : decode cX0_moveTide 2 = .ok (.aload_n 0, 1) := by decide +kernel
theorem dX0_moveTide_3 : decode cX0_moveTide 3 = .ok (.iload_n 1, 1) := by decide +kernel
theorem dX0_moveTide_4 : decode cX0_moveTide 4 = .ok (.putfield 32, 3) := by decide +kernel
theorem dX0_moveTide_7 : decode cX0_moveTide 7 = .ok (.aload_n 0, 1) := by decide +kernel
theorem dX0_moveTide_8 : decode cX0_moveTide 8 = .ok (.getfield 20, 3) := by decide +kernel
theorem dX0_moveTide_11 : decode cX0_moveTide 11 = .ok (.astore_n 3, 1) := by decide +kernel
theorem dX0_moveTide_12 : decode cX0_moveTide 12 = .ok (.aload_n 3, 1) := by decide +kernel
theorem dX0_moveTide_13 : decode cX0_moveTide 13 = .ok (.arraylength, 1) := by decide +kernel
theorem dX0_moveTide_14 : decode cX0_moveTide 14 = .ok (.istore 4, 2) := by decide +kernel
theorem dX0_moveTide_16 : decode cX0_moveTide 16 = .ok (.iconst 0, 1) := by decide +kernel
theorem dX0_moveTide_17 : decode cX0_moveTide 17 = .ok (.istore 5, 2) := by decide +kernel
theorem dX0_moveTide_19 : decode cX0_moveTide 19 = .ok (.iload 5, 2) := by decide +kernel
theorem dX0_moveTide_21 : decode cX0_moveTide 21 = .ok (.iload 4, 2) := by decide +kernel
theorem dX0_moveTide_23 : decode cX0_moveTide 23 = .ok (.if_icmp .ge 44, 3) := by decide +kernel
theorem dX0_moveTide_26 : decode cX0_moveTide 26 = .ok (.aload_n 3, 1) := by decide +kernel
theorem dX0_moveTide_27 : decode cX0_moveTide 27 = .ok (.iload 5, 2) := by decide +kernel
theorem dX0_moveTide_29 : decode cX0_moveTide 29 = .ok (.aaload, 1) := by decide +kernel
theorem dX0_moveTide_30 : decode cX0_moveTide 30 = .ok (.astore 6, 2) := by decide +kernel
theorem dX0_moveTide_32 : decode cX0_moveTide 32 = .ok (.aload 6, 2) := by decide +kernel
theorem dX0_moveTide_34 : decode cX0_moveTide 34 = .ok (.getfield 55, 3) := by decide +kernel
theorem dX0_moveTide_37 : decode cX0_moveTide 37 = .ok (.ifCond .eq 24, 3) := by decide +kernel
theorem dX0_moveTide_40 : decode cX0_moveTide 40 = .ok (.aload_n 0, 1) := by decide +kernel
theorem dX0_moveTide_41 : decode cX0_moveTide 41 = .ok (.aload 6, 2) := by decide +kernel
theorem dX0_moveTide_43 : decode cX0_moveTide 43 = .ok (.getfield 61, 3) := by decide +kernel
theorem dX0_moveTide_46 : decode cX0_moveTide 46 = .ok (.invokevirtual 110, 3) := by decide +kernel
theorem dX0_moveTide_49 : decode cX0_moveTide 49 = .ok (.ifCond .eq 12, 3) := by decide +kernel
theorem dX0_moveTide_52 : decode cX0_moveTide 52 = .ok (.aload 6, 2) := by decide +kernel
theorem dX0_moveTide_54 : decode cX0_moveTide 54 = .ok (.iconst 0, 1) := by decide +kernel
theorem dX0_moveTide_55 : decode cX0_moveTide 55 = .ok (.putfield 55, 3) := by decide +kernel
theorem dX0_moveTide_58 : decode cX0_moveTide 58 = .ok (.iinc 2 1, 3) := by decide +kernel
theorem dX0_moveTide_61 : decode cX0_moveTide 61 = .ok (.iinc 5 1, 3) := by decide +kernel
theorem dX0_moveTide_64 : decode cX0_moveTide 64 = .ok (.goto (-45), 3) := by decide +kernel
theorem dX0_moveTide_67 : decode cX0_moveTide 67 = .ok (.aload_n 0, 1) := by decide +kernel
theorem dX0_moveTide_68 : decode cX0_moveTide 68 = .ok (.dup, 1) := by decide +kernel
theorem dX0_moveTide_69 : decode cX0_moveTide 69 = .ok (.getfield 42, 3) := by decide +kernel
theorem dX0_moveTide_72 : decode cX0_moveTide 72 = .ok (.iload_n 2, 1) := by decide +kernel
theorem dX0_moveTide_73 : decode cX0_moveTide 73 = .ok (.iadd, 1) := by decide +kernel
theorem dX0_moveTide_74 : decode cX0_moveTide 74 = .ok (.putfield 42, 3) := by decide +kernel
theorem dX0_moveTide_77 : decode cX0_moveTide 77 = .ok (.iload_n 2, 1) := by decide +kernel
theorem dX0_moveTide_78 : decode cX0_moveTide 78 = .ok (.ireturn, 1) := by decide +kernel
theorem dX1_init_0 : decode cX1_init 0 = .ok (.aload_n 0, 1) := by decide +kernel
theorem dX1_init_1 : decode cX1_init 1 = .ok (.invokespecial 1, 3) := by decide +kernel
theorem dX1_init_4 : decode cX1_init 4 = .ok (.return_, 1) := by decide +kernel
set_option maxRecDepth 20000 in
theorem ggX2_init_X0_init : GoodIn wsX2_init wsX0_init := goodIn_r _ [10, 11, 2, 3, 12, 13, 14, 15, 16, 17, 18, 19, 20, 21, 22, 23, 24, 25, 28, 29, 30, 31, 32, 33, 34, 35, 36, 37, 38, 39, 40, 41, 42, 43, 44, 45, 46, 47] (by decide +kernel) (by decide +kernel)
set_option maxRecDepth 20000 in
theorem gX2_init_X0_init : GoodIn wsX2_init (wsX0_init) := ggX2_init_X0_init
theorem dX2_init_0 : decode cX2_init 0 = .ok (.aload_n 0, 1) := by decide +kernel
theorem dX2_init_1 : decode cX2_init 1 = .ok (.invokespecial 3, 3) := by decide +kernel
theorem dX2_init_4 : decode cX2_init 4 = .ok (.aload_n 0, 1) := by decide +kernel
theorem dX2_init_5 : decode cX2_init 5 = .ok (.bipush 8, 2) := by decide +kernel
theorem dX2_init_7 : decode cX2_init 7 = .ok (.anewarray 9, 3) := by decide +kernel
theorem dX2_init_10 : decode cX2_init 10 = .ok (.putfield 11, 3) := by decide +kernel
theorem dX2_init_13 : decode cX2_init 13 = .ok (.iconst 0, 1) := by decide +kernel
theorem dX2_init_14 : decode cX2_init 14 = .ok (.istore_n 1, 1) := by decide +kernel
theorem dX2_init_15 : decode cX2_init 15 = .ok (.iload_n 1, 1) := by decide +kernel
theorem dX2_init_16 : decode cX2_init 16 = .ok (.aload_n 0, 1) := by decide +kernel
theorem dX2_init_17 : decode cX2_init 17 = .ok (.getfield 11, 3) := by decide +kernel
theorem dX2_init_20 : decode cX2_init 20 = .ok (.arraylength, 1) := by decide +kernel
theorem dX2_init_21 : decode cX2_init 21 = .ok (.if_icmp .ge 22, 3) := by decide +kernel
theorem dX2_init_24 : decode cX2_init 24 = .ok (.aload_n 0, 1) := by decide +kernel
theorem dX2_init_25 : decode cX2_init 25 = .ok (.getfield 11, 3) := by decide +kernel
theorem dX2_init_28 : decode cX2_init 28 = .ok (.iload_n 1, 1) := by decide +kernel
theorem dX2_init_29 : decode cX2_init 29 = .ok (.new 9, 3) := by decide +kernel
theorem dX2_init_32 : decode cX2_init 32 = .ok (.dup, 1) := by decide +kernel
theorem dX2_init_33 : decode cX2_init 33 = .ok (.invokespecial 17, 3) := by decide +kernel
theorem dX2_init_36 : decode cX2_init 36 = .ok (.aastore, 1) := by decide +kernel
theorem dX2_init_37 : decode cX2_init 37 = .ok (.iinc 1 1, 3) := by decide +kernel
theorem dX2_init_40 : decode cX2_init 40 = .ok (.goto (-25), 3) := by decide +kernel
theorem dX2_init_43 : decode cX2_init 43 = .ok (.return_, 1) := by decide +kernel
set_option maxRecDepth 20000 in
theorem ggX2_push_X0_copyFrom : GoodIn wsX2_push wsX0_copyFrom := goodIn_r _ [11, 12, 13, 14, 15, 16, 17, 18, 19, 20, 21, 22, 23, 24, 25, 26, 27, 28, 29, 30, 31, 32, 33, 34, 35, 36, 37, 38, 39, 40, 41, 44, 45, 46, 47, 48, 49, 50, 51, 52, 53, 54, 55, 56, 57, 58, 59, 60, 61, 62, 63] (by decide +kernel) (by decide +kernel)
set_option maxRecDepth 20000 in
theorem gX2_push_X0_copyFrom : GoodIn wsX2_push (wsV RX2 18 RX0 yX0_copyFrom wsX0_copyFrom) := goodIn_app (goodIn_of _ (by decide +kernel)) ggX2_push_X0_copyFrom
theorem dX2_push_0 : decode cX2_push 0 = .ok (.aload_n 0, 1) := by decide +kernel
theorem dX2_push_1 : decode cX2_push 1 = .ok (.getfield 11, 3) := by decide +kernel
theorem dX2_push_4 : decode cX2_push 4 = .ok (.aload_n 0, 1) := by decide +kernel
theorem dX2_push_5 : decode cX2_push 5 = .ok (.getfield 11, 3) := by decide +kernel
theorem dX2_push_8 : decode cX2_push 8 = .ok (.arraylength, 1) := by decide +kernel
theorem dX2_push_9 : decode cX2_push 9 = .ok (.iconst 1, 1) := by decide +kernel
theorem dX2_push_10 : decode cX2_push 10 = .ok (.isub, 1) := by decide +kernel
theorem dX2_push_11 : decode cX2_push 11 = .ok (.aaload, 1) := by decide +kernel
theorem dX2_push_12 : decode cX2_push 12 = .ok (.astore_n 2, 1) := by decide +kernel
theorem dX2_push_13 : decode cX2_push 13 = .ok (.aload_n 0, 1) := by decide +kernel
theorem dX2_push_14 : decode cX2_push 14 = .ok (.getfield 11, 3) := by decide +kernel
theorem dX2_push_17 : decode cX2_push 17 = .ok (.arraylength, 1) := by decide +kernel
theorem dX2_push_18 : decode cX2_push 18 = .ok (.iconst 1, 1) := by decide +kernel
theorem dX2_push_19 : decode cX2_push 19 = .ok (.isub, 1) := by decide +kernel
theorem dX2_push_20 : decode cX2_push 20 = .ok (.istore_n 3, 1) := by decide +kernel
theorem dX2_push_21 : decode cX2_push 21 = .ok (.iload_n 3, 1) := by decide +kernel
theorem dX2_push_22 : decode cX2_push 22 = .ok (.ifCond .le 23, 3) := by decide +kernel
theorem dX2_push_25 : decode cX2_push 25 = .ok (.aload_n 0, 1) := by decide +kernel
theorem dX2_push_26 : decode cX2_push 26 = .ok (.getfield 11, 3) := by decide +kernel
theorem dX2_push_29 : decode cX2_push 29 = .ok (.iload_n 3, 1) := by decide +kernel
theorem dX2_push_30 : decode cX2_push 30 = .ok (.aload_n 0, 1) := by decide +kernel
theorem dX2_push_31 : decode cX2_push 31 = .ok (.getfield 11, 3) := by decide +kernel
theorem dX2_push_34 : decode cX2_push 34 = .ok (.iload_n 3, 1) := by decide +kernel
theorem dX2_push_35 : decode cX2_push 35 = .ok (.iconst 1, 1) := by decide +kernel
theorem dX2_push_36 : decode cX2_push 36 = .ok (.isub, 1) := by decide +kernel
theorem dX2_push_37 : decode cX2_push 37 = .ok (.aaload, 1) := by decide +kernel
theorem dX2_push_38 : decode cX2_push 38 = .ok (.aastore, 1) := by decide +kernel
theorem dX2_push_39 : decode cX2_push 39 = .ok (.iinc 3 (-1), 3) := by decide +kernel
theorem dX2_push_42 : decode cX2_push 42 = .ok (.goto (-21), 3) := by decide +kernel
theorem dX2_push_45 : decode cX2_push 45 = .ok (.aload_n 0, 1) := by decide +kernel
theorem dX2_push_46 : decode cX2_push 46 = .ok (.getfield 11, 3) := by decide +kernel
theorem dX2_push_49 : decode cX2_push 49 = .ok (.iconst 0, 1) := by decide +kernel
theorem dX2_push_50 : decode cX2_push 50 = .ok (.aload_n 2, 1) := by decide +kernel
theorem dX2_push_51 : decode cX2_push 51 = .ok (.aastore, 1) := by decide +kernel
theorem dX2_push_52 : decode cX2_push 52 = .ok (.aload_n 2, 1) := by decide +kernel
theorem dX2_push_53 : decode cX2_push 53 = .ok (.aload_n 1, 1) := by decide +kernel
theorem dX2_push_54 : decode cX2_push 54 = .ok (.invokevirtual 18, 3) := by decide +kernel
theorem dX2_push_57 : decode cX2_push 57 = .ok (.aload_n 0, 1) := by decide +kernel
theorem dX2_push_58 : decode cX2_push 58 = .ok (.aload_n 0, 1) := by decide +kernel
theorem dX2_push_59 : decode cX2_push 59 = .ok (.getfield 22, 3) := by decide +kernel
theorem dX2_push_62 : decode cX2_push 62 = .ok (.iconst 1, 1) := by decide +kernel
theorem dX2_push_63 : decode cX2_push 63 = .ok (.iadd, 1) := by decide +kernel
theorem dX2_push_64 : decode cX2_push 64 = .ok (.aload_n 0, 1) := by decide +kernel
theorem dX2_push_65 : decode cX2_push 65 = .ok (.getfield 11, 3) := by decide +kernel
theorem dX2_push_68 : decode cX2_push 68 = .ok (.arraylength, 1) := by decide +kernel
theorem dX2_push_69 : decode cX2_push 69 = .ok (.invokestatic 26, 3) := by decide +kernel
theorem dX2_push_72 : decode cX2_push 72 = .ok (.putfield 22, 3) := by decide +kernel
theorem dX2_push_75 : decode cX2_push 75 = .ok (.return_, 1) := by decide +kernel
theorem dX3_init_0 : decode cX3_init 0 = .ok (.aload_n 0, 1) := by decide +kernel
theorem dX3_init_1 : decode cX3_init 1 = .ok (.invokespecial 1, 3) := by decide +kernel
theorem dX3_init_4 : decode cX3_init 4 = .ok (.return_, 1) := by decide +kernel
theorem dX3_copyFrom_0 : decode cX3_copyFrom 0 = .ok (.aload_n 0, 1) := by decide +kernel
theorem dX3_copyFrom_1 : decode cX3_copyFrom 1 = .ok (.aload_n 1, 1) := by decide +kernel
theorem dX3_copyFrom_2 : decode cX3_copyFrom 2 = .ok (.getfield 7, 3) := by decide +kernel
theorem dX3_copyFrom_5 : decode cX3_copyFrom 5 = .ok (.putfield 7, 3) := by decide +kernel
theorem dX3_copyFrom_8 : decode cX3_copyFrom 8 = .ok (.aload_n 0, 1) := by decide +kernel
theorem dX3_copyFrom_9 : decode cX3_copyFrom 9 = .ok (.aload_n 1, 1) := by decide +kernel
theorem dX3_copyFrom_10 : decode cX3_copyFrom 10 = .ok (.getfield 13, 3) := by decide +kernel
theorem dX3_copyFrom_13 : decode cX3_copyFrom 13 = .ok (.putfield 13, 3) := by decide +kernel
theorem dX3_copyFrom_16 : decode cX3_copyFrom 16 = .ok (.aload_n 0, 1) := by decide +kernel
theorem dX3_copyFrom_17 : decode cX3_copyFrom 17 = .ok (.aload_n 1, 1) := by decide +kernel
theorem dX3_copyFrom_18 : decode cX3_copyFrom 18 = .ok (.getfield 17, 3) := by decide +kernel
theorem dX3_copyFrom_21 : decode cX3_copyFrom 21 = .ok (.putfield 17, 3) := by decide +kernel
theorem dX3_copyFrom_24 : decode cX3_copyFrom 24 = .ok (.aload_n 0, 1) := by decide +kernel
theorem dX3_copyFrom_25 : decode cX3_copyFrom 25 = .ok (.aload_n 1, 1) := by decide +kernel
theorem dX3_copyFrom_26 : decode cX3_copyFrom 26 = .ok (.getfield 20, 3) := by decide +kernel
theorem dX3_copyFrom_29 : decode cX3_copyFrom 29 = .ok (.putfield 20, 3) := by decide +kernel
theorem dX3_copyFrom_32 : decode cX3_copyFrom 32 = .ok (.aload_n 0, 1) := by decide +kernel
theorem dX3_copyFrom_33 : decode cX3_copyFrom 33 = .ok (.aload_n 1, 1) := by decide +kernel
theorem dX3_copyFrom_34 : decode cX3_copyFrom 34 = .ok (.getfield 23, 3) := by decide +kernel
theorem dX3_copyFrom_37 : decode cX3_copyFrom 37 = .ok (.putfield 23, 3) := by decide +kernel
theorem dX3_copyFrom_40 : decode cX3_copyFrom 40 = .ok (.aload_n 0, 1) := by decide +kernel
theorem dX3_copyFrom_41 : decode cX3_copyFrom 41 = .ok (.aload_n 1, 1) := by decide +kernel
theorem dX3_copyFrom_42 : decode cX3_copyFrom 42 = .ok (.getfield 26, 3) := by decide +kernel
theorem dX3_copyFrom_45 : decode cX3_copyFrom 45 = .ok (.putfield 26, 3) := by decide +kernel
theorem dX3_copyFrom_48 : decode cX3_copyFrom 48 = .ok (.aload_n 0, 1) := by decide +kernel
theorem dX3_copyFrom_49 : decode cX3_copyFrom 49 = .ok (.aload_n 1, 1) := by decide +kernel
theorem dX3_copyFrom_50 : decode cX3_copyFrom 50 = .ok (.getfield 29, 3) := by decide +kernel
theorem dX3_copyFrom_53 : decode cX3_copyFrom 53 = .ok (.putfield 29, 3) := by decide +kernel
theorem dX3_copyFrom_56 : decode cX3_copyFrom 56 = .ok (.aload_n 0, 1) := by decide +kernel
theorem dX3_copyFrom_57 : decode cX3_copyFrom 57 = .ok (.aload_n 1, 1) := by decide +kernel
theorem dX3_copyFrom_58 : decode cX3_copyFrom 58 = .ok (.getfield 32, 3) := by decide +kernel
theorem dX3_copyFrom_61 : decode cX3_copyFrom 61 = .ok (.putfield 32, 3) := by decide +kernel
theorem dX3_copyFrom_64 : decode cX3_copyFrom 64 = .ok (.aload_n 0, 1) := by decide +kernel
theorem dX3_copyFrom_65 : decode cX3_copyFrom 65 = .ok (.aload_n 1, 1) := by decide +kernel
theorem dX3_copyFrom_66 : decode cX3_copyFrom 66 = .ok (.getfield 35, 3) := by decide +kernel
theorem dX3_copyFrom_69 : decode cX3_copyFrom 69 = .ok (.putfield 35, 3) := by decide +kernel
theorem dX3_copyFrom_72 : decode cX3_copyFrom 72 = .ok (.aload_n 0, 1) := by decide +kernel
theorem dX3_copyFrom_73 : decode cX3_copyFrom 73 = .ok (.aload_n 1, 1) := by decide +kernel
theorem dX3_copyFrom_74 : decode cX3_copyFrom 74 = .ok (.getfield 38, 3) := by decide +kernel
theorem dX3_copyFrom_77 : decode cX3_copyFrom 77 = .ok (.putfield 38, 3) := by decide +kernel
theorem dX3_copyFrom_80 : decode cX3_copyFrom 80 = .ok (.return_, 1) := by decide +kernel
theorem dX3_isOn_0 : decode cX3_isOn 0 = .ok (.aload_n 0, 1) := by decide +kernel
theorem dX3_isOn_1 : decode cX3_isOn 1 = .ok (.getfield 7, 3) := by decide +kernel
theorem dX3_isOn_4 : decode cX3_isOn 4 = .ok (.ifCond .eq 15, 3) := by decide +kernel
theorem dX3_isOn_7 : decode cX3_isOn 7 = .ok (.aload_n 0, 1) := by decide +kernel
theorem dX3_isOn_8 : decode cX3_isOn 8 = .ok (.getfield 17, 3) := by decide +kernel
theorem dX3_isOn_11 : decode cX3_isOn 11 = .ok (.iload_n 1, 1) := by decide +kernel
theorem dX3_isOn_12 : decode cX3_isOn 12 = .ok (.if_icmp .ne 7, 3) := by decide +kernel
theorem dX3_isOn_15 : decode cX3_isOn 15 = .ok (.iconst 1, 1) := by decide +kernel
theorem dX3_isOn_16 : decode cX3_isOn 16 = .ok (.goto 4, 3) := by decide +kernel
theorem dX3_isOn_19 : decode cX3_isOn 19 = .ok (.iconst 0, 1) := by decide +kernel
theorem dX3_isOn_20 : decode cX3_isOn 20 = .ok (.ireturn, 1) := by decide +kernel
theorem dX3_distanceTo_0 : decode cX3_distanceTo 0 = .ok (.aload_n 0, 1) := by decide +kernel
theorem dX3_distanceTo_1 : decode cX3_distanceTo 1 = .ok (.getfield 23, 3) := by decide +kernel
theorem dX3_distanceTo_4 : decode cX3_distanceTo 4 = .ok (.iload_n 1, 1) := by decide +kernel
theorem dX3_distanceTo_5 : decode cX3_distanceTo 5 = .ok (.isub, 1) := by decide +kernel
theorem dX3_distanceTo_6 : decode cX3_distanceTo 6 = .ok (.invokestatic 41, 3) := by decide +kernel
theorem dX3_distanceTo_9 : decode cX3_distanceTo 9 = .ok (.aload_n 0, 1) := by decide +kernel
theorem dX3_distanceTo_10 : decode cX3_distanceTo 10 = .ok (.getfield 26, 3) := by decide +kernel
theorem dX3_distanceTo_13 : decode cX3_distanceTo 13 = .ok (.iload_n 2, 1) := by decide +kernel
theorem dX3_distanceTo_14 : decode cX3_distanceTo 14 = .ok (.isub, 1) := by decide +kernel
theorem dX3_distanceTo_15 : decode cX3_distanceTo 15 = .ok (.invokestatic 41, 3) := by decide +kernel
theorem dX3_distanceTo_18 : decode cX3_distanceTo 18 = .ok (.iadd, 1) := by decide +kernel
theorem dX3_distanceTo_19 : decode cX3_distanceTo 19 = .ok (.ireturn, 1) := by decide +kernel
theorem dX3_turnOver_0 : decode cX3_turnOver 0 = .ok (.aload_n 0, 1) := by decide +kernel
theorem dX3_turnOver_1 : decode cX3_turnOver 1 = .ok (.aload_n 0, 1) := by decide +kernel
theorem dX3_turnOver_2 : decode cX3_turnOver 2 = .ok (.getfield 29, 3) := by decide +kernel
theorem dX3_turnOver_5 : decode cX3_turnOver 5 = .ok (.ifCond .ne 7, 3) := by decide +kernel
theorem dX3_turnOver_8 : decode cX3_turnOver 8 = .ok (.iconst 1, 1) := by decide +kernel
theorem dX3_turnOver_9 : decode cX3_turnOver 9 = .ok (.goto 4, 3) := by decide +kernel
theorem dX3_turnOver_12 : decode cX3_turnOver 12 = .ok (.iconst 0, 1) := by decide +kernel
theorem dX3_turnOver_13 : decode cX3_turnOver 13 = .ok (.putfield 29, 3) := by decide +kernel
theorem dX3_turnOver_16 : decode cX3_turnOver 16 = .ok (.aload_n 0, 1) := by decide +kernel
theorem dX3_turnOver_17 : decode cX3_turnOver 17 = .ok (.getfield 29, 3) := by decide +kernel
theorem dX3_turnOver_20 : decode cX3_turnOver 20 = .ok (.ireturn, 1) := by decide +kernel
theorem dX3_raiseDoubt_0 : decode cX3_raiseDoubt 0 = .ok (.aload_n 0, 1) := by decide +kernel
theorem dX3_raiseDoubt_1 : decode cX3_raiseDoubt 1 = .ok (.dup, 1) := by decide +kernel
theorem dX3_raiseDoubt_2 : decode cX3_raiseDoubt 2 = .ok (.getfield 35, 3) := by decide +kernel
theorem dX3_raiseDoubt_5 : decode cX3_raiseDoubt 5 = .ok (.iconst 1, 1) := by decide +kernel
theorem dX3_raiseDoubt_6 : decode cX3_raiseDoubt 6 = .ok (.iadd, 1) := by decide +kernel
theorem dX3_raiseDoubt_7 : decode cX3_raiseDoubt 7 = .ok (.putfield 35, 3) := by decide +kernel
theorem dX3_raiseDoubt_10 : decode cX3_raiseDoubt 10 = .ok (.aload_n 0, 1) := by decide +kernel
theorem dX3_raiseDoubt_11 : decode cX3_raiseDoubt 11 = .ok (.getfield 35, 3) := by decide +kernel
theorem dX3_raiseDoubt_14 : decode cX3_raiseDoubt 14 = .ok (.ireturn, 1) := by decide +kernel
theorem dX3_settleDoubts_0 : decode cX3_settleDoubts 0 = .ok (.aload_n 0, 1) := by decide +kernel
theorem dX3_settleDoubts_1 : decode cX3_settleDoubts 1 = .ok (.getfield 35, 3) := by decide +kernel
theorem dX3_settleDoubts_4 : decode cX3_settleDoubts 4 = .ok (.istore_n 1, 1) := by decide +kernel
theorem dX3_settleDoubts_5 : decode cX3_settleDoubts 5 = .ok (.aload_n 0, 1) := by decide +kernel
theorem dX3_settleDoubts_6 : decode cX3_settleDoubts 6 = .ok (.iconst 0, 1) := by decide +kernel
theorem dX3_settleDoubts_7 : decode cX3_settleDoubts 7 = .ok (.putfield 35, 3) := by decide +kernel
theorem dX3_settleDoubts_10 : decode cX3_settleDoubts 10 = .ok (.iload_n 1, 1) := by decide +kernel
theorem dX3_settleDoubts_11 : decode cX3_settleDoubts 11 = .ok (.ireturn, 1) := by decide +kernel
theorem dX4_init_0 : decode cX4_init 0 = .ok (.aload_n 0, 1) := by decide +kernel
theorem dX4_init_1 : decode cX4_init 1 = .ok (.invokespecial 3, 3) := by decide +kernel
theorem dX4_init_4 : decode cX4_init 4 = .ok (.aload_n 0, 1) := by decide +kernel
theorem dX4_init_5 : decode cX4_init 5 = .ok (.aload_n 1, 1) := by decide +kernel
theorem dX4_init_6 : decode cX4_init 6 = .ok (.putfield 9, 3) := by decide +kernel
theorem dX4_init_9 : decode cX4_init 9 = .ok (.return_, 1) := by decide +kernel
set_option maxRecDepth 20000 in
theorem ggX4_strideIsWrong_X0_before : GoodIn wsX4_strideIsWrong wsX0_before := goodIn_r _ [6, 7, 8, 9, 10, 11, 12, 13, 14, 15, 16, 44, 45, 46, 47, 48, 49, 50, 51, 52, 53, 54, 55, 56, 57, 58, 59, 60] (by decide +kernel) (by decide +kernel)
set_option maxRecDepth 20000 in
theorem gX4_strideIsWrong_X0_before : GoodIn wsX4_strideIsWrong (wsV RX4 15 RX0 yX0_before wsX0_before) := goodIn_app (goodIn_of _ (by decide +kernel)) ggX4_strideIsWrong_X0_before
set_option maxRecDepth 20000 in
theorem ggX4_strideIsWrong_X4_isTooLong : GoodIn wsX4_strideIsWrong wsX4_isTooLong := goodIn_r _ [21, 1, 22, 23, 24, 25, 26, 27, 28, 5, 29, 30, 31, 32, 33, 34, 35, 13, 36, 37, 38, 39, 40, 41, 42, 43, 51, 52, 53, 54, 55, 56, 57, 58, 59, 60, 61, 62, 63, 44, 45, 46, 47, 48, 49, 50] (by decide +kernel) (by decide +kernel)
set_option maxRecDepth 20000 in
theorem gX4_strideIsWrong_X4_isTooLong : GoodIn wsX4_strideIsWrong (wsV RX4 21 RX4 yX4_isTooLong wsX4_isTooLong) := goodIn_app (goodIn_of _ (by decide +kernel)) ggX4_strideIsWrong_X4_isTooLong
theorem dX4_strideIsWrong_0 : decode cX4_strideIsWrong 0 = .ok (.aload_n 0, 1) := by decide +kernel
theorem dX4_strideIsWrong_1 : decode cX4_strideIsWrong 1 = .ok (.aload_n 0, 1) := by decide +kernel
theorem dX4_strideIsWrong_2 : decode cX4_strideIsWrong 2 = .ok (.getfield 9, 3) := by decide +kernel
theorem dX4_strideIsWrong_5 : decode cX4_strideIsWrong 5 = .ok (.aload_n 1, 1) := by decide +kernel
theorem dX4_strideIsWrong_6 : decode cX4_strideIsWrong 6 = .ok (.invokevirtual 15, 3) := by decide +kernel
theorem dX4_strideIsWrong_9 : decode cX4_strideIsWrong 9 = .ok (.aload_n 1, 1) := by decide +kernel
theorem dX4_strideIsWrong_10 : decode cX4_strideIsWrong 10 = .ok (.invokevirtual 21, 3) := by decide +kernel
theorem dX4_strideIsWrong_13 : decode cX4_strideIsWrong 13 = .ok (.ireturn, 1) := by decide +kernel
set_option maxRecDepth 20000 in
theorem ggX4_footIsWrong_X0_before : GoodIn wsX4_footIsWrong wsX0_before := goodIn_r _ [6, 7, 8, 9, 10, 11, 12, 13, 14, 15, 16, 24, 25, 26, 27, 28, 29, 30, 31, 32, 33, 34, 35, 36, 37, 38, 39, 40] (by decide +kernel) (by decide +kernel)
set_option maxRecDepth 20000 in
theorem gX4_footIsWrong_X0_before : GoodIn wsX4_footIsWrong (wsV RX4 15 RX0 yX0_before wsX0_before) := goodIn_app (goodIn_of _ (by decide +kernel)) ggX4_footIsWrong_X0_before
set_option maxRecDepth 20000 in
theorem ggX4_footIsWrong_X4_isSameFoot : GoodIn wsX4_footIsWrong wsX4_isSameFoot := goodIn_r _ [21, 22, 31, 32, 33, 34, 35, 36, 37, 38, 39, 40] (by decide +kernel) (by decide +kernel)
set_option maxRecDepth 20000 in
theorem gX4_footIsWrong_X4_isSameFoot : GoodIn wsX4_footIsWrong (wsV RX4 25 RX4 yX4_isSameFoot wsX4_isSameFoot) := goodIn_app (goodIn_of _ (by decide +kernel)) ggX4_footIsWrong_X4_isSameFoot
theorem dX4_footIsWrong_0 : decode cX4_footIsWrong 0 = .ok (.aload_n 0, 1) := by decide +kernel
theorem dX4_footIsWrong_1 : decode cX4_footIsWrong 1 = .ok (.aload_n 0, 1) := by decide +kernel
theorem dX4_footIsWrong_2 : decode cX4_footIsWrong 2 = .ok (.getfield 9, 3) := by decide +kernel
theorem dX4_footIsWrong_5 : decode cX4_footIsWrong 5 = .ok (.aload_n 1, 1) := by decide +kernel
theorem dX4_footIsWrong_6 : decode cX4_footIsWrong 6 = .ok (.invokevirtual 15, 3) := by decide +kernel
theorem dX4_footIsWrong_9 : decode cX4_footIsWrong 9 = .ok (.aload_n 1, 1) := by decide +kernel
theorem dX4_footIsWrong_10 : decode cX4_footIsWrong 10 = .ok (.invokevirtual 25, 3) := by decide +kernel
theorem dX4_footIsWrong_13 : decode cX4_footIsWrong 13 = .ok (.ireturn, 1) := by decide +kernel
set_option maxRecDepth 20000 in
theorem ggX4_depthIsWrong_X0_before : GoodIn wsX4_depthIsWrong wsX0_before := goodIn_r _ [6, 7, 8, 9, 10, 11, 12, 13, 14, 15, 16, 28, 29, 30, 31, 32, 33, 34, 35, 36, 37, 38, 39, 40, 41, 42, 43, 44] (by decide +kernel) (by decide +kernel)
set_option maxRecDepth 20000 in
theorem gX4_depthIsWrong_X0_before : GoodIn wsX4_depthIsWrong (wsV RX4 15 RX0 yX0_before wsX0_before) := goodIn_app (goodIn_of _ (by decide +kernel)) ggX4_depthIsWrong_X0_before
set_option maxRecDepth 20000 in
theorem ggX4_depthIsWrong_X4_isUneven : GoodIn wsX4_depthIsWrong wsX4_isUneven := goodIn_r _ [21, 22, 23, 24, 25, 26, 35, 36, 37, 38, 39, 40, 41, 42, 43, 44] (by decide +kernel) (by decide +kernel)
set_option maxRecDepth 20000 in
theorem gX4_depthIsWrong_X4_isUneven : GoodIn wsX4_depthIsWrong (wsV RX4 28 RX4 yX4_isUneven wsX4_isUneven) := goodIn_app (goodIn_of _ (by decide +kernel)) ggX4_depthIsWrong_X4_isUneven
theorem dX4_depthIsWrong_0 : decode cX4_depthIsWrong 0 = .ok (.aload_n 0, 1) := by decide +kernel
theorem dX4_depthIsWrong_1 : decode cX4_depthIsWrong 1 = .ok (.aload_n 0, 1) := by decide +kernel
theorem dX4_depthIsWrong_2 : decode cX4_depthIsWrong 2 = .ok (.getfield 9, 3) := by decide +kernel
theorem dX4_depthIsWrong_5 : decode cX4_depthIsWrong 5 = .ok (.aload_n 1, 1) := by decide +kernel
theorem dX4_depthIsWrong_6 : decode cX4_depthIsWrong 6 = .ok (.invokevirtual 15, 3) := by decide +kernel
theorem dX4_depthIsWrong_9 : decode cX4_depthIsWrong 9 = .ok (.aload_n 1, 1) := by decide +kernel
theorem dX4_depthIsWrong_10 : decode cX4_depthIsWrong 10 = .ok (.invokevirtual 28, 3) := by decide +kernel
theorem dX4_depthIsWrong_13 : decode cX4_depthIsWrong 13 = .ok (.ireturn, 1) := by decide +kernel
set_option maxRecDepth 20000 in
theorem ggX4_isTooLong_X0_findTrack : GoodIn wsX4_isTooLong wsX0_findTrack := goodIn_r _ [10, 11, 12, 13, 39, 40, 41, 42, 43, 44, 45, 36, 37, 38] (by decide +kernel) (by decide +kernel)
set_option maxRecDepth 20000 in
theorem gX4_isTooLong_X0_findTrack : GoodIn wsX4_isTooLong (wsV RX4 37 RX0 yX0_findTrack wsX0_findTrack) := goodIn_app (goodIn_of _ (by decide +kernel)) ggX4_isTooLong_X0_findTrack
set_option maxRecDepth 20000 in
theorem ggX4_isTooLong_X3_distanceTo : GoodIn wsX4_isTooLong wsX3_distanceTo := goodIn_r _ [18, 19, 20, 21, 22, 23, 24, 26, 27, 28, 29, 30, 31, 32, 33, 34, 35] (by decide +kernel) (by decide +kernel)
set_option maxRecDepth 20000 in
theorem gX4_isTooLong_X3_distanceTo : GoodIn wsX4_isTooLong (wsV RX4 47 RX3 yX3_distanceTo wsX3_distanceTo) := goodIn_app (goodIn_of _ (by decide +kernel)) ggX4_isTooLong_X3_distanceTo
theorem dX4_isTooLong_0 : decode cX4_isTooLong 0 = .ok (.aload_n 0, 1) := by decide +kernel
theorem dX4_isTooLong_1 : decode cX4_isTooLong 1 = .ok (.getfield 9, 3) := by decide +kernel
theorem dX4_isTooLong_4 : decode cX4_isTooLong 4 = .ok (.aload_n 2, 1) := by decide +kernel
theorem dX4_isTooLong_5 : decode cX4_isTooLong 5 = .ok (.getfield 31, 3) := by decide +kernel
theorem dX4_isTooLong_8 : decode cX4_isTooLong 8 = .ok (.invokevirtual 37, 3) := by decide +kernel
theorem dX4_isTooLong_11 : decode cX4_isTooLong 11 = .ok (.astore_n 3, 1) := by decide +kernel
theorem dX4_isTooLong_12 : decode cX4_isTooLong 12 = .ok (.aload_n 1, 1) := by decide +kernel
theorem dX4_isTooLong_13 : decode cX4_isTooLong 13 = .ok (.ifnull 30, 3) := by decide +kernel
theorem dX4_isTooLong_16 : decode cX4_isTooLong 16 = .ok (.aload_n 3, 1) := by decide +kernel
theorem dX4_isTooLong_17 : decode cX4_isTooLong 17 = .ok (.ifnull 26, 3) := by decide +kernel
theorem dX4_isTooLong_20 : decode cX4_isTooLong 20 = .ok (.aload_n 2, 1) := by decide +kernel
theorem dX4_isTooLong_21 : decode cX4_isTooLong 21 = .ok (.aload_n 1, 1) := by decide +kernel
theorem dX4_isTooLong_22 : decode cX4_isTooLong 22 = .ok (.getfield 41, 3) := by decide +kernel
theorem dX4_isTooLong_25 : decode cX4_isTooLong 25 = .ok (.aload_n 1, 1) := by decide +kernel
theorem dX4_isTooLong_26 : decode cX4_isTooLong 26 = .ok (.getfield 44, 3) := by decide +kernel
theorem dX4_isTooLong_29 : decode cX4_isTooLong 29 = .ok (.invokevirtual 47, 3) := by decide +kernel
theorem dX4_isTooLong_32 : decode cX4_isTooLong 32 = .ok (.aload_n 3, 1) := by decide +kernel
theorem dX4_isTooLong_33 : decode cX4_isTooLong 33 = .ok (.getfield 51, 3) := by decide +kernel
theorem dX4_isTooLong_36 : decode cX4_isTooLong 36 = .ok (.if_icmp .le 7, 3) := by decide +kernel
theorem dX4_isTooLong_39 : decode cX4_isTooLong 39 = .ok (.iconst 1, 1) := by decide +kernel
theorem dX4_isTooLong_40 : decode cX4_isTooLong 40 = .ok (.goto 4, 3) := by decide +kernel
theorem dX4_isTooLong_43 : decode cX4_isTooLong 43 = .ok (.iconst 0, 1) := by decide +kernel
theorem dX4_isTooLong_44 : decode cX4_isTooLong 44 = .ok (.ireturn, 1) := by decide +kernel
theorem dX4_isSameFoot_0 : decode cX4_isSameFoot 0 = .ok (.aload_n 1, 1) := by decide +kernel
theorem dX4_isSameFoot_1 : decode cX4_isSameFoot 1 = .ok (.ifnull 18, 3) := by decide +kernel
theorem dX4_isSameFoot_4 : decode cX4_isSameFoot 4 = .ok (.aload_n 1, 1) := by decide +kernel
theorem dX4_isSameFoot_5 : decode cX4_isSameFoot 5 = .ok (.getfield 56, 3) := by decide +kernel
theorem dX4_isSameFoot_8 : decode cX4_isSameFoot 8 = .ok (.aload_n 2, 1) := by decide +kernel
theorem dX4_isSameFoot_9 : decode cX4_isSameFoot 9 = .ok (.getfield 56, 3) := by decide +kernel
theorem dX4_isSameFoot_12 : decode cX4_isSameFoot 12 = .ok (.if_icmp .ne 7, 3) := by decide +kernel
theorem dX4_isSameFoot_15 : decode cX4_isSameFoot 15 = .ok (.iconst 1, 1) := by decide +kernel
theorem dX4_isSameFoot_16 : decode cX4_isSameFoot 16 = .ok (.goto 4, 3) := by decide +kernel
theorem dX4_isSameFoot_19 : decode cX4_isSameFoot 19 = .ok (.iconst 0, 1) := by decide +kernel
theorem dX4_isSameFoot_20 : decode cX4_isSameFoot 20 = .ok (.ireturn, 1) := by decide +kernel
theorem dX4_isUneven_0 : decode cX4_isUneven 0 = .ok (.aload_n 1, 1) := by decide +kernel
theorem dX4_isUneven_1 : decode cX4_isUneven 1 = .ok (.ifnull 23, 3) := by decide +kernel
theorem dX4_isUneven_4 : decode cX4_isUneven 4 = .ok (.aload_n 1, 1) := by decide +kernel
theorem dX4_isUneven_5 : decode cX4_isUneven 5 = .ok (.getfield 60, 3) := by decide +kernel
theorem dX4_isUneven_8 : decode cX4_isUneven 8 = .ok (.aload_n 2, 1) := by decide +kernel
theorem dX4_isUneven_9 : decode cX4_isUneven 9 = .ok (.getfield 60, 3) := by decide +kernel
theorem dX4_isUneven_12 : decode cX4_isUneven 12 = .ok (.isub, 1) := by decide +kernel
theorem dX4_isUneven_13 : decode cX4_isUneven 13 = .ok (.invokestatic 63, 3) := by decide +kernel
theorem dX4_isUneven_16 : decode cX4_isUneven 16 = .ok (.iconst 3, 1) := by decide +kernel
theorem dX4_isUneven_17 : decode cX4_isUneven 17 = .ok (.if_icmp .le 7, 3) := by decide +kernel
theorem dX4_isUneven_20 : decode cX4_isUneven 20 = .ok (.iconst 1, 1) := by decide +kernel
theorem dX4_isUneven_21 : decode cX4_isUneven 21 = .ok (.goto 4, 3) := by decide +kernel
theorem dX4_isUneven_24 : decode cX4_isUneven 24 = .ok (.iconst 0, 1) := by decide +kernel
theorem dX4_isUneven_25 : decode cX4_isUneven 25 = .ok (.ireturn, 1) := by decide +kernel
set_option maxRecDepth 20000 in
theorem ggX4_hasError_X4_strideIsWrong : GoodIn wsX4_hasError wsX4_strideIsWrong := goodIn_r _ [5, 6, 7, 8, 9, 10, 11, 12, 13, 14, 15, 16, 17, 18, 19, 20, 21, 22, 23, 24, 4, 25, 26, 27, 28, 29, 30, 31, 32, 33, 34, 35, 36, 37, 38, 39, 40, 41, 42, 43, 44, 45, 46, 66, 67, 68, 69, 70, 71, 72, 73, 74, 75, 76, 77, 78, 79, 80, 81, 82, 83, 84, 85, 86] (by decide +kernel) (by decide +kernel)
set_option maxRecDepth 20000 in
theorem gX4_hasError_X4_strideIsWrong : GoodIn wsX4_hasError (wsV RX4 69 RX4 yX4_strideIsWrong wsX4_strideIsWrong) := goodIn_app (goodIn_of _ (by decide +kernel)) ggX4_hasError_X4_strideIsWrong
set_option maxRecDepth 20000 in
theorem ggX4_hasError_X4_footIsWrong : GoodIn wsX4_hasError wsX4_footIsWrong := goodIn_r _ [50, 6, 7, 8, 9, 10, 11, 12, 13, 14, 15, 16, 17, 18, 19, 20, 21, 51, 52, 53, 4, 54, 55, 66, 67, 68, 69, 70, 71, 72, 73, 74, 75, 76, 77, 78, 79, 80, 81, 82, 83] (by decide +kernel) (by decide +kernel)
set_option maxRecDepth 20000 in
theorem gX4_hasError_X4_footIsWrong : GoodIn wsX4_hasError (wsV RX4 73 RX4 yX4_footIsWrong wsX4_footIsWrong) := goodIn_app (goodIn_of _ (by decide +kernel)) ggX4_hasError_X4_footIsWrong
set_option maxRecDepth 20000 in
theorem ggX4_hasError_X4_depthIsWrong : GoodIn wsX4_hasError wsX4_depthIsWrong := goodIn_r _ [59, 6, 7, 8, 9, 10, 11, 12, 13, 14, 15, 16, 17, 18, 19, 20, 21, 60, 61, 62, 4, 63, 64, 65, 43, 44, 45, 66, 67, 68, 69, 70, 71, 72, 73, 74, 75, 76, 77, 78, 79, 80, 81, 82, 83] (by decide +kernel) (by decide +kernel)
set_option maxRecDepth 20000 in
theorem gX4_hasError_X4_depthIsWrong : GoodIn wsX4_hasError (wsV RX4 76 RX4 yX4_depthIsWrong wsX4_depthIsWrong) := goodIn_app (goodIn_of _ (by decide +kernel)) ggX4_hasError_X4_depthIsWrong
theorem dX4_hasError_0 : decode cX4_hasError 0 = .ok (.aload_n 0, 1) := by decide +kernel
theorem dX4_hasError_1 : decode cX4_hasError 1 = .ok (.aload_n 1, 1) := by decide +kernel
theorem dX4_hasError_2 : decode cX4_hasError 2 = .ok (.invokevirtual 69, 3) := by decide +kernel
theorem dX4_hasError_5 : decode cX4_hasError 5 = .ok (.ifCond .ne 19, 3) := by decide +kernel
theorem dX4_hasError_8 : decode cX4_hasError 8 = .ok (.aload_n 0, 1) := by decide +kernel
theorem dX4_hasError_9 : decode cX4_hasError 9 = .ok (.aload_n 1, 1) := by decide +kernel
theorem dX4_hasError_10 : decode cX4_hasError 10 = .ok (.invokevirtual 73, 3) := by decide +kernel
theorem dX4_hasError_13 : decode cX4_hasError 13 = .ok (.ifCond .ne 11, 3) := by decide +kernel
theorem dX4_hasError_16 : decode cX4_hasError 16 = .ok (.aload_n 0, 1) := by decide +kernel
theorem dX4_hasError_17 : decode cX4_hasError 17 = .ok (.aload_n 1, 1) := by decide +kernel
theorem dX4_hasError_18 : decode cX4_hasError 18 = .ok (.invokevirtual 76, 3) := by decide +kernel
theorem dX4_hasError_21 : decode cX4_hasError 21 = .ok (.ifCond .eq 7, 3) := by decide +kernel
theorem dX4_hasError_24 : decode cX4_hasError 24 = .ok (.iconst 1, 1) := by decide +kernel
theorem dX4_hasError_25 : decode cX4_hasError 25 = .ok (.goto 4, 3) := by decide +kernel
theorem dX4_hasError_28 : decode cX4_hasError 28 = .ok (.iconst 0, 1) := by decide +kernel
theorem dX4_hasError_29 : decode cX4_hasError 29 = .ok (.ireturn, 1) := by decide +kernel
set_option maxRecDepth 20000 in
theorem ggX4_errorsByPrints_X3_isOn : GoodIn wsX4_errorsByPrints wsX3_isOn := goodIn_r _ [7, 8, 9, 64, 65, 66, 67, 68, 69, 70, 71, 72, 73] (by decide +kernel) (by decide +kernel)
set_option maxRecDepth 20000 in
theorem gX4_errorsByPrints_X3_isOn : GoodIn wsX4_errorsByPrints (wsV RX4 83 RX3 yX3_isOn wsX3_isOn) := goodIn_app (goodIn_of _ (by decide +kernel)) ggX4_errorsByPrints_X3_isOn
set_option maxRecDepth 20000 in
theorem ggX4_errorsByPrints_X0_before : GoodIn wsX4_errorsByPrints wsX0_before := goodIn_r _ [14, 15, 16, 17, 18, 4, 5, 6, 7, 8, 9, 57, 58, 59, 60, 61, 62, 63, 64, 65, 66, 67, 68, 69, 70, 71, 72, 73] (by decide +kernel) (by decide +kernel)
set_option maxRecDepth 20000 in
theorem gX4_errorsByPrints_X0_before : GoodIn wsX4_errorsByPrints (wsV RX4 15 RX0 yX0_before wsX0_before) := goodIn_app (goodIn_of _ (by decide +kernel)) ggX4_errorsByPrints_X0_before
set_option maxRecDepth 20000 in
theorem ggX4_errorsByPrints_X4_isTooLong : GoodIn wsX4_errorsByPrints wsX4_isTooLong := goodIn_r _ [23, 1, 24, 25, 26, 27, 28, 29, 30, 13, 31, 32, 33, 34, 35, 36, 37, 6, 38, 39, 40, 41, 42, 43, 44, 56, 64, 65, 66, 67, 68, 69, 70, 71, 72, 73, 74, 75, 76, 57, 58, 59, 60, 61, 62, 63] (by decide +kernel) (by decide +kernel)
set_option maxRecDepth 20000 in
theorem gX4_errorsByPrints_X4_isTooLong : GoodIn wsX4_errorsByPrints (wsV RX4 21 RX4 yX4_isTooLong wsX4_isTooLong) := goodIn_app (goodIn_of _ (by decide +kernel)) ggX4_errorsByPrints_X4_isTooLong
set_option maxRecDepth 20000 in
theorem ggX4_errorsByPrints_X4_isSameFoot : GoodIn wsX4_errorsByPrints wsX4_isSameFoot := goodIn_r _ [48, 49, 64, 65, 66, 67, 68, 69, 70, 71, 72, 73] (by decide +kernel) (by decide +kernel)
set_option maxRecDepth 20000 in
theorem gX4_errorsByPrints_X4_isSameFoot : GoodIn wsX4_errorsByPrints (wsV RX4 25 RX4 yX4_isSameFoot wsX4_isSameFoot) := goodIn_app (goodIn_of _ (by decide +kernel)) ggX4_errorsByPrints_X4_isSameFoot
set_option maxRecDepth 20000 in
theorem ggX4_errorsByPrints_X4_isUneven : GoodIn wsX4_errorsByPrints wsX4_isUneven := goodIn_r _ [53, 54, 55, 41, 42, 43, 64, 65, 66, 67, 68, 69, 70, 71, 72, 73] (by decide +kernel) (by decide +kernel)
set_option maxRecDepth 20000 in
theorem gX4_errorsByPrints_X4_isUneven : GoodIn wsX4_errorsByPrints (wsV RX4 28 RX4 yX4_isUneven wsX4_isUneven) := goodIn_app (goodIn_of _ (by decide +kernel)) ggX4_errorsByPrints_X4_isUneven
theorem dX4_errorsByPrints_0 : decode cX4_errorsByPrints 0 = .ok (.iconst 0, 1) := by decide +kernel
theorem dX4_errorsByPrints_1 : decode cX4_errorsByPrints 1 = .ok (.istore_n 2, 1) := by decide +kernel
theorem dX4_errorsByPrints_2 : decode cX4_errorsByPrints 2 = .ok (.aload_n 0, 1) := by decide +kernel
theorem dX4_errorsByPrints_3 : decode cX4_errorsByPrints 3 = .ok (.getfield 9, 3) := by decide +kernel
theorem dX4_errorsByPrints_6 : decode cX4_errorsByPrints 6 = .ok (.getfield 79, 3) := by decide +kernel
theorem dX4_errorsByPrints_9 : decode cX4_errorsByPrints 9 = .ok (.astore_n 3, 1) := by decide +kernel
theorem dX4_errorsByPrints_10 : decode cX4_errorsByPrints 10 = .ok (.aload_n 3, 1) := by decide +kernel
theorem dX4_errorsByPrints_11 : decode cX4_errorsByPrints 11 = .ok (.arraylength, 1) := by decide +kernel
theorem dX4_errorsByPrints_12 : decode cX4_errorsByPrints 12 = .ok (.istore 4, 2) := by decide +kernel
theorem dX4_errorsByPrints_14 : decode cX4_errorsByPrints 14 = .ok (.iconst 0, 1) := by decide +kernel
theorem dX4_errorsByPrints_15 : decode cX4_errorsByPrints 15 = .ok (.istore 5, 2) := by decide +kernel
theorem dX4_errorsByPrints_17 : decode cX4_errorsByPrints 17 = .ok (.iload 5, 2) := by decide +kernel
theorem dX4_errorsByPrints_19 : decode cX4_errorsByPrints 19 = .ok (.iload 4, 2) := by decide +kernel
theorem dX4_errorsByPrints_21 : decode cX4_errorsByPrints 21 = .ok (.if_icmp .ge 96, 3) := by decide +kernel
theorem dX4_errorsByPrints_24 : decode cX4_errorsByPrints 24 = .ok (.aload_n 3, 1) := by decide +kernel
theorem dX4_errorsByPrints_25 : decode cX4_errorsByPrints 25 = .ok (.iload 5, 2) := by decide +kernel
theorem dX4_errorsByPrints_27 : decode cX4_errorsByPrints 27 = .ok (.aaload, 1) := by decide +kernel
theorem dX4_errorsByPrints_28 : decode cX4_errorsByPrints 28 = .ok (.astore 6, 2) := by decide +kernel
theorem dX4_errorsByPrints_30 : decode cX4_errorsByPrints 30 = .ok (.aload 6, 2) := by decide +kernel
theorem dX4_errorsByPrints_32 : decode cX4_errorsByPrints 32 = .ok (.iload_n 1, 1) := by decide +kernel
theorem dX4_errorsByPrints_33 : decode cX4_errorsByPrints 33 = .ok (.invokevirtual 83, 3) := by decide +kernel
theorem dX4_errorsByPrints_36 : decode cX4_errorsByPrints 36 = .ok (.ifCond .eq 15, 3) := by decide +kernel
theorem dX4_errorsByPrints_39 : decode cX4_errorsByPrints 39 = .ok (.aload_n 0, 1) := by decide +kernel
theorem dX4_errorsByPrints_40 : decode cX4_errorsByPrints 40 = .ok (.getfield 9, 3) := by decide +kernel
theorem dX4_errorsByPrints_43 : decode cX4_errorsByPrints 43 = .ok (.aload 6, 2) := by decide +kernel
theorem dX4_errorsByPrints_45 : decode cX4_errorsByPrints 45 = .ok (.invokevirtual 15, 3) := by decide +kernel
theorem dX4_errorsByPrints_48 : decode cX4_errorsByPrints 48 = .ok (.goto 4, 3) := by decide +kernel
theorem dX4_errorsByPrints_51 : decode cX4_errorsByPrints 51 = .ok (.aconst_null, 1) := by decide +kernel
theorem dX4_errorsByPrints_52 : decode cX4_errorsByPrints 52 = .ok (.astore 7, 2) := by decide +kernel
theorem dX4_errorsByPrints_54 : decode cX4_errorsByPrints 54 = .ok (.iload_n 2, 1) := by decide +kernel
theorem dX4_errorsByPrints_55 : decode cX4_errorsByPrints 55 = .ok (.aload_n 0, 1) := by decide +kernel
theorem dX4_errorsByPrints_56 : decode cX4_errorsByPrints 56 = .ok (.aload 7, 2) := by decide +kernel
theorem dX4_errorsByPrints_58 : decode cX4_errorsByPrints 58 = .ok (.aload 6, 2) := by decide +kernel
theorem dX4_errorsByPrints_60 : decode cX4_errorsByPrints 60 = .ok (.invokevirtual 21, 3) := by decide +kernel
theorem dX4_errorsByPrints_63 : decode cX4_errorsByPrints 63 = .ok (.ifCond .eq 7, 3) := by decide +kernel
theorem dX4_errorsByPrints_66 : decode cX4_errorsByPrints 66 = .ok (.iconst 1, 1) := by decide +kernel
theorem dX4_errorsByPrints_67 : decode cX4_errorsByPrints 67 = .ok (.goto 4, 3) := by decide +kernel
theorem dX4_errorsByPrints_70 : decode cX4_errorsByPrints 70 = .ok (.iconst 0, 1) := by decide +kernel
theorem dX4_errorsByPrints_71 : decode cX4_errorsByPrints 71 = .ok (.iadd, 1) := by decide +kernel
theorem dX4_errorsByPrints_72 : decode cX4_errorsByPrints 72 = .ok (.istore_n 2, 1) := by decide +kernel
theorem dX4_errorsByPrints_73 : decode cX4_errorsByPrints 73 = .ok (.iload_n 2, 1) := by decide +kernel
theorem dX4_errorsByPrints_74 : decode cX4_errorsByPrints 74 = .ok (.aload_n 0, 1) := by decide +kernel
theorem dX4_errorsByPrints_75 : decode cX4_errorsByPrints 75 = .ok (.aload 7, 2) := by decide +kernel
theorem dX4_errorsByPrints_77 : decode cX4_errorsByPrints 77 = .ok (.aload 6, 2) := by decide +kernel
theorem dX4_errorsByPrints_79 : decode cX4_errorsByPrints 79 = .ok (.invokevirtual 25, 3) := by decide +kernel
theorem dX4_errorsByPrints_82 : decode cX4_errorsByPrints 82 = .ok (.ifCond .eq 7, 3) := by decide +kernel
theorem dX4_errorsByPrints_85 : decode cX4_errorsByPrints 85 = .ok (.iconst 1, 1) := by decide +kernel
theorem dX4_errorsByPrints_86 : decode cX4_errorsByPrints 86 = .ok (.goto 4, 3) := by decide +kernel
theorem dX4_errorsByPrints_89 : decode cX4_errorsByPrints 89 = .ok (.iconst 0, 1) := by decide +kernel
theorem dX4_errorsByPrints_90 : decode cX4_errorsByPrints 90 = .ok (.iadd, 1) := by decide +kernel
theorem dX4_errorsByPrints_91 : decode cX4_errorsByPrints 91 = .ok (.istore_n 2, 1) := by decide +kernel
theorem dX4_errorsByPrints_92 : decode cX4_errorsByPrints 92 = .ok (.iload_n 2, 1) := by decide +kernel
theorem dX4_errorsByPrints_93 : decode cX4_errorsByPrints 93 = .ok (.aload_n 0, 1) := by decide +kernel
theorem dX4_errorsByPrints_94 : decode cX4_errorsByPrints 94 = .ok (.aload 7, 2) := by decide +kernel
theorem dX4_errorsByPrints_96 : decode cX4_errorsByPrints 96 = .ok (.aload 6, 2) := by decide +kernel
theorem dX4_errorsByPrints_98 : decode cX4_errorsByPrints 98 = .ok (.invokevirtual 28, 3) := by decide +kernel
theorem dX4_errorsByPrints_101 : decode cX4_errorsByPrints 101 = .ok (.ifCond .eq 7, 3) := by decide +kernel
theorem dX4_errorsByPrints_104 : decode cX4_errorsByPrints 104 = .ok (.iconst 1, 1) := by decide +kernel
theorem dX4_errorsByPrints_105 : decode cX4_errorsByPrints 105 = .ok (.goto 4, 3) := by decide +kernel
theorem dX4_errorsByPrints_108 : decode cX4_errorsByPrints 108 = .ok (.iconst 0, 1) := by decide +kernel
theorem dX4_errorsByPrints_109 : decode cX4_errorsByPrints 109 = .ok (.iadd, 1) := by decide +kernel
theorem dX4_errorsByPrints_110 : decode cX4_errorsByPrints 110 = .ok (.istore_n 2, 1) := by decide +kernel
theorem dX4_errorsByPrints_111 : decode cX4_errorsByPrints 111 = .ok (.iinc 5 1, 3) := by decide +kernel
theorem dX4_errorsByPrints_114 : decode cX4_errorsByPrints 114 = .ok (.goto (-97), 3) := by decide +kernel
theorem dX4_errorsByPrints_117 : decode cX4_errorsByPrints 117 = .ok (.iload_n 2, 1) := by decide +kernel
theorem dX4_errorsByPrints_118 : decode cX4_errorsByPrints 118 = .ok (.ireturn, 1) := by decide +kernel
set_option maxRecDepth 20000 in
theorem ggX4_errorsByKinds_X3_isOn : GoodIn wsX4_errorsByKinds wsX3_isOn := goodIn_r _ [7, 8, 9, 64, 65, 66, 67, 68, 69, 70, 71, 72, 73] (by decide +kernel) (by decide +kernel)
set_option maxRecDepth 20000 in
theorem gX4_errorsByKinds_X3_isOn : GoodIn wsX4_errorsByKinds (wsV RX4 83 RX3 yX3_isOn wsX3_isOn) := goodIn_app (goodIn_of _ (by decide +kernel)) ggX4_errorsByKinds_X3_isOn
set_option maxRecDepth 20000 in
theorem ggX4_errorsByKinds_X0_before : GoodIn wsX4_errorsByKinds wsX0_before := goodIn_r _ [14, 15, 16, 17, 18, 4, 5, 6, 7, 8, 9, 57, 58, 59, 60, 61, 62, 63, 64, 65, 66, 67, 68, 69, 70, 71, 72, 73] (by decide +kernel) (by decide +kernel)
set_option maxRecDepth 20000 in
theorem gX4_errorsByKinds_X0_before : GoodIn wsX4_errorsByKinds (wsV RX4 15 RX0 yX0_before wsX0_before) := goodIn_app (goodIn_of _ (by decide +kernel)) ggX4_errorsByKinds_X0_before
set_option maxRecDepth 20000 in
theorem ggX4_errorsByKinds_X4_isTooLong : GoodIn wsX4_errorsByKinds wsX4_isTooLong := goodIn_r _ [23, 1, 24, 25, 26, 27, 28, 29, 30, 13, 31, 32, 33, 34, 35, 36, 37, 6, 38, 39, 40, 41, 42, 43, 44, 56, 64, 65, 66, 67, 68, 69, 70, 71, 72, 73, 74, 75, 76, 57, 58, 59, 60, 61, 62, 63] (by decide +kernel) (by decide +kernel)
set_option maxRecDepth 20000 in
theorem gX4_errorsByKinds_X4_isTooLong : GoodIn wsX4_errorsByKinds (wsV RX4 21 RX4 yX4_isTooLong wsX4_isTooLong) := goodIn_app (goodIn_of _ (by decide +kernel)) ggX4_errorsByKinds_X4_isTooLong
set_option maxRecDepth 20000 in
theorem ggX4_errorsByKinds_X4_isSameFoot : GoodIn wsX4_errorsByKinds wsX4_isSameFoot := goodIn_r _ [48, 49, 64, 65, 66, 67, 68, 69, 70, 71, 72, 73] (by decide +kernel) (by decide +kernel)
set_option maxRecDepth 20000 in
theorem gX4_errorsByKinds_X4_isSameFoot : GoodIn wsX4_errorsByKinds (wsV RX4 25 RX4 yX4_isSameFoot wsX4_isSameFoot) := goodIn_app (goodIn_of _ (by decide +kernel)) ggX4_errorsByKinds_X4_isSameFoot
set_option maxRecDepth 20000 in
theorem ggX4_errorsByKinds_X4_isUneven : GoodIn wsX4_errorsByKinds wsX4_isUneven := goodIn_r _ [53, 54, 55, 41, 42, 43, 64, 65, 66, 67, 68, 69, 70, 71, 72, 73] (by decide +kernel) (by decide +kernel)
set_option maxRecDepth 20000 in
theorem gX4_errorsByKinds_X4_isUneven : GoodIn wsX4_errorsByKinds (wsV RX4 28 RX4 yX4_isUneven wsX4_isUneven) := goodIn_app (goodIn_of _ (by decide +kernel)) ggX4_errorsByKinds_X4_isUneven
theorem dX4_errorsByKinds_0 : decode cX4_errorsByKinds 0 = .ok (.iconst 0, 1) := by decide +kernel
theorem dX4_errorsByKinds_1 : decode cX4_errorsByKinds 1 = .ok (.istore_n 2, 1) := by decide +kernel
theorem dX4_errorsByKinds_2 : decode cX4_errorsByKinds 2 = .ok (.aload_n 0, 1) := by decide +kernel
theorem dX4_errorsByKinds_3 : decode cX4_errorsByKinds 3 = .ok (.getfield 9, 3) := by decide +kernel
theorem dX4_errorsByKinds_6 : decode cX4_errorsByKinds 6 = .ok (.getfield 79, 3) := by decide +kernel
theorem dX4_errorsByKinds_9 : decode cX4_errorsByKinds 9 = .ok (.astore_n 3, 1) := by decide +kernel
theorem dX4_errorsByKinds_10 : decode cX4_errorsByKinds 10 = .ok (.aload_n 3, 1) := by decide +kernel
theorem dX4_errorsByKinds_11 : decode cX4_errorsByKinds 11 = .ok (.arraylength, 1) := by decide +kernel
theorem dX4_errorsByKinds_12 : decode cX4_errorsByKinds 12 = .ok (.istore 4, 2) := by decide +kernel
theorem dX4_errorsByKinds_14 : decode cX4_errorsByKinds 14 = .ok (.iconst 0, 1) := by decide +kernel
theorem dX4_errorsByKinds_15 : decode cX4_errorsByKinds 15 = .ok (.istore 5, 2) := by decide +kernel
theorem dX4_errorsByKinds_17 : decode cX4_errorsByKinds 17 = .ok (.iload 5, 2) := by decide +kernel
theorem dX4_errorsByKinds_19 : decode cX4_errorsByKinds 19 = .ok (.iload 4, 2) := by decide +kernel
theorem dX4_errorsByKinds_21 : decode cX4_errorsByKinds 21 = .ok (.if_icmp .ge 50, 3) := by decide +kernel
theorem dX4_errorsByKinds_24 : decode cX4_errorsByKinds 24 = .ok (.aload_n 3, 1) := by decide +kernel
theorem dX4_errorsByKinds_25 : decode cX4_errorsByKinds 25 = .ok (.iload 5, 2) := by decide +kernel
theorem dX4_errorsByKinds_27 : decode cX4_errorsByKinds 27 = .ok (.aaload, 1) := by decide +kernel
theorem dX4_errorsByKinds_28 : decode cX4_errorsByKinds 28 = .ok (.astore 6, 2) := by decide +kernel
theorem dX4_errorsByKinds_30 : decode cX4_errorsByKinds 30 = .ok (.iload_n 2, 1) := by decide +kernel
theorem dX4_errorsByKinds_31 : decode cX4_errorsByKinds 31 = .ok (.aload 6, 2) := by decide +kernel
theorem dX4_errorsByKinds_33 : decode cX4_errorsByKinds 33 = .ok (.iload_n 1, 1) := by decide +kernel
theorem dX4_errorsByKinds_34 : decode cX4_errorsByKinds 34 = .ok (.invokevirtual 83, 3) := by decide +kernel
theorem dX4_errorsByKinds_37 : decode cX4_errorsByKinds 37 = .ok (.ifCond .eq 25, 3) := by decide +kernel
theorem dX4_errorsByKinds_40 : decode cX4_errorsByKinds 40 = .ok (.aload_n 0, 1) := by decide +kernel
theorem dX4_errorsByKinds_41 : decode cX4_errorsByKinds 41 = .ok (.aload_n 0, 1) := by decide +kernel
theorem dX4_errorsByKinds_42 : decode cX4_errorsByKinds 42 = .ok (.getfield 9, 3) := by decide +kernel
theorem dX4_errorsByKinds_45 : decode cX4_errorsByKinds 45 = .ok (.aload 6, 2) := by decide +kernel
theorem dX4_errorsByKinds_47 : decode cX4_errorsByKinds 47 = .ok (.invokevirtual 15, 3) := by decide +kernel
theorem dX4_errorsByKinds_50 : decode cX4_errorsByKinds 50 = .ok (.aload 6, 2) := by decide +kernel
theorem dX4_errorsByKinds_52 : decode cX4_errorsByKinds 52 = .ok (.invokevirtual 21, 3) := by decide +kernel
theorem dX4_errorsByKinds_55 : decode cX4_errorsByKinds 55 = .ok (.ifCond .eq 7, 3) := by decide +kernel
theorem dX4_errorsByKinds_58 : decode cX4_errorsByKinds 58 = .ok (.iconst 1, 1) := by decide +kernel
theorem dX4_errorsByKinds_59 : decode cX4_errorsByKinds 59 = .ok (.goto 4, 3) := by decide +kernel
theorem dX4_errorsByKinds_62 : decode cX4_errorsByKinds 62 = .ok (.iconst 0, 1) := by decide +kernel
theorem dX4_errorsByKinds_63 : decode cX4_errorsByKinds 63 = .ok (.iadd, 1) := by decide +kernel
theorem dX4_errorsByKinds_64 : decode cX4_errorsByKinds 64 = .ok (.istore_n 2, 1) := by decide +kernel
theorem dX4_errorsByKinds_65 : decode cX4_errorsByKinds 65 = .ok (.iinc 5 1, 3) := by decide +kernel
theorem dX4_errorsByKinds_68 : decode cX4_errorsByKinds 68 = .ok (.goto (-51), 3) := by decide +kernel
theorem dX4_errorsByKinds_71 : decode cX4_errorsByKinds 71 = .ok (.iconst 0, 1) := by decide +kernel
theorem dX4_errorsByKinds_72 : decode cX4_errorsByKinds 72 = .ok (.istore_n 3, 1) := by decide +kernel
theorem dX4_errorsByKinds_73 : decode cX4_errorsByKinds 73 = .ok (.aload_n 0, 1) := by decide +kernel
theorem dX4_errorsByKinds_74 : decode cX4_errorsByKinds 74 = .ok (.getfield 9, 3) := by decide +kernel
theorem dX4_errorsByKinds_77 : decode cX4_errorsByKinds 77 = .ok (.getfield 79, 3) := by decide +kernel
theorem dX4_errorsByKinds_80 : decode cX4_errorsByKinds 80 = .ok (.astore 4, 2) := by decide +kernel
theorem dX4_errorsByKinds_82 : decode cX4_errorsByKinds 82 = .ok (.aload 4, 2) := by decide +kernel
theorem dX4_errorsByKinds_84 : decode cX4_errorsByKinds 84 = .ok (.arraylength, 1) := by decide +kernel
theorem dX4_errorsByKinds_85 : decode cX4_errorsByKinds 85 = .ok (.istore 5, 2) := by decide +kernel
