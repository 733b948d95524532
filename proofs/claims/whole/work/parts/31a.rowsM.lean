theorem dX10_init_0 : decode cX10_init 0 = .ok (.aload_n 0, 1) := by decide +kernel
theorem dX10_init_1 : decode cX10_init 1 = .ok (.invokespecial 1, 3) := by decide +kernel
theorem dX10_init_4 : decode cX10_init 4 = .ok (.aload_n 0, 1) := by decide +kernel
theorem dX10_init_5 : decode cX10_init 5 = .ok (.sipush 3179, 3) := by decide +kernel
theorem dX10_init_8 : decode cX10_init 8 = .ok (.newarray .int, 2) := by decide +kernel
theorem dX10_init_10 : decode cX10_init 10 = .ok (.putfield 9, 3) := by decide +kernel
theorem dX10_init_13 : decode cX10_init 13 = .ok (.aload_n 0, 1) := by decide +kernel
theorem dX10_init_14 : decode cX10_init 14 = .ok (.bipush 100, 2) := by decide +kernel
theorem dX10_init_16 : decode cX10_init 16 = .ok (.newarray .char, 2) := by decide +kernel
theorem dX10_init_18 : decode cX10_init 18 = .ok (.putfield 13, 3) := by decide +kernel
theorem dX10_init_21 : decode cX10_init 21 = .ok (.aload_n 0, 1) := by decide +kernel
theorem dX10_init_22 : decode cX10_init 22 = .ok (.bipush 60, 2) := by decide +kernel
theorem dX10_init_24 : decode cX10_init 24 = .ok (.newarray .char, 2) := by decide +kernel
theorem dX10_init_26 : decode cX10_init 26 = .ok (.putfield 17, 3) := by decide +kernel
theorem dX10_init_29 : decode cX10_init 29 = .ok (.aload_n 0, 1) := by decide +kernel
theorem dX10_init_30 : decode cX10_init 30 = .ok (.iconst (-1), 1) := by decide +kernel
theorem dX10_init_31 : decode cX10_init 31 = .ok (.putfield 20, 3) := by decide +kernel
theorem dX10_init_34 : decode cX10_init 34 = .ok (.aload_n 0, 1) := by decide +kernel
theorem dX10_init_35 : decode cX10_init 35 = .ok (.sipush 427, 3) := by decide +kernel
theorem dX10_init_38 : decode cX10_init 38 = .ok (.newarray .int, 2) := by decide +kernel
theorem dX10_init_40 : decode cX10_init 40 = .ok (.putfield 24, 3) := by decide +kernel
theorem dX10_init_43 : decode cX10_init 43 = .ok (.return_, 1) := by decide +kernel
theorem dX10_thrown_0 : decode cX10_thrown 0 = .ok (.aload_n 0, 1) := by decide +kernel
theorem dX10_thrown_1 : decode cX10_thrown 1 = .ok (.getfield 27, 3) := by decide +kernel
theorem dX10_thrown_4 : decode cX10_thrown 4 = .ok (.ireturn, 1) := by decide +kernel
theorem dX10_in_0 : decode cX10_in 0 = .ok (.iload_n 0, 1) := by decide +kernel
theorem dX10_in_1 : decode cX10_in 1 = .ok (.iload_n 1, 1) := by decide +kernel
theorem dX10_in_2 : decode cX10_in 2 = .ok (.if_icmp .lt 12, 3) := by decide +kernel
theorem dX10_in_5 : decode cX10_in 5 = .ok (.iload_n 0, 1) := by decide +kernel
theorem dX10_in_6 : decode cX10_in 6 = .ok (.iload_n 2, 1) := by decide +kernel
theorem dX10_in_7 : decode cX10_in 7 = .ok (.if_icmp .gt 7, 3) := by decide +kernel
theorem dX10_in_10 : decode cX10_in 10 = .ok (.iconst 1, 1) := by decide +kernel
theorem dX10_in_11 : decode cX10_in 11 = .ok (.goto 4, 3) := by decide +kernel
theorem dX10_in_14 : decode cX10_in 14 = .ok (.iconst 0, 1) := by decide +kernel
theorem dX10_in_15 : decode cX10_in 15 = .ok (.ireturn, 1) := by decide +kernel
theorem dX10_copies_0 : decode cX10_copies 0 = .ok (.iconst 0, 1) := by decide +kernel
theorem dX10_copies_1 : decode cX10_copies 1 = .ok (.istore_n 3, 1) := by decide +kernel
theorem dX10_copies_2 : decode cX10_copies 2 = .ok (.iload_n 3, 1) := by decide +kernel
theorem dX10_copies_3 : decode cX10_copies 3 = .ok (.sipush 289, 3) := by decide +kernel
theorem dX10_copies_6 : decode cX10_copies 6 = .ok (.if_icmp .ge 33, 3) := by decide +kernel
theorem dX10_copies_9 : decode cX10_copies 9 = .ok (.aload_n 0, 1) := by decide +kernel
theorem dX10_copies_10 : decode cX10_copies 10 = .ok (.getfield 9, 3) := by decide +kernel
theorem dX10_copies_13 : decode cX10_copies 13 = .ok (.sipush 289, 3) := by decide +kernel
theorem dX10_copies_16 : decode cX10_copies 16 = .ok (.iload_n 2, 1) := by decide +kernel
theorem dX10_copies_17 : decode cX10_copies 17 = .ok (.imul, 1) := by decide +kernel
theorem dX10_copies_18 : decode cX10_copies 18 = .ok (.iload_n 3, 1) := by decide +kernel
theorem dX10_copies_19 : decode cX10_copies 19 = .ok (.iadd, 1) := by decide +kernel
theorem dX10_copies_20 : decode cX10_copies 20 = .ok (.aload_n 0, 1) := by decide +kernel
theorem dX10_copies_21 : decode cX10_copies 21 = .ok (.getfield 9, 3) := by decide +kernel
theorem dX10_copies_24 : decode cX10_copies 24 = .ok (.sipush 289, 3) := by decide +kernel
theorem dX10_copies_27 : decode cX10_copies 27 = .ok (.iload_n 1, 1) := by decide +kernel
theorem dX10_copies_28 : decode cX10_copies 28 = .ok (.imul, 1) := by decide +kernel
theorem dX10_copies_29 : decode cX10_copies 29 = .ok (.iload_n 3, 1) := by decide +kernel
theorem dX10_copies_30 : decode cX10_copies 30 = .ok (.iadd, 1) := by decide +kernel
theorem dX10_copies_31 : decode cX10_copies 31 = .ok (.iaload, 1) := by decide +kernel
theorem dX10_copies_32 : decode cX10_copies 32 = .ok (.iastore, 1) := by decide +kernel
theorem dX10_copies_33 : decode cX10_copies 33 = .ok (.iinc 3 1, 3) := by decide +kernel
theorem dX10_copies_36 : decode cX10_copies 36 = .ok (.goto (-34), 3) := by decide +kernel
theorem dX10_copies_39 : decode cX10_copies 39 = .ok (.return_, 1) := by decide +kernel
set_option maxRecDepth 20000 in
theorem ggX10_begins_X10_copies : GoodIn wsX10_begins wsX10_copies := goodIn_ca (goodIn_r _ [5, 6, 7, 8, 9, 10, 11, 12, 13, 14, 15, 16, 17, 18, 19, 20, 21, 22, 23, 24] (by decide +kernel) (by decide +kernel)) (goodIn_sub (fun _ h => List.mem_cons_of_mem _ (List.mem_append_right _ h)) (by decide +kernel))
set_option maxRecDepth 20000 in
theorem gX10_begins_X10_copies : GoodIn wsX10_begins (wsV RX10 30 RX10 yX10_copies wsX10_copies) := goodIn_app (goodIn_of _ (by decide +kernel)) ggX10_begins_X10_copies
theorem dX10_begins_0 : decode cX10_begins 0 = .ok (.aload_n 0, 1) := by decide +kernel
theorem dX10_begins_1 : decode cX10_begins 1 = .ok (.iconst 0, 1) := by decide +kernel
theorem dX10_begins_2 : decode cX10_begins 2 = .ok (.bipush 10, 2) := by decide +kernel
theorem dX10_begins_4 : decode cX10_begins 4 = .ok (.invokevirtual 30, 3) := by decide +kernel
theorem dX10_begins_7 : decode cX10_begins 7 = .ok (.return_, 1) := by decide +kernel
set_option maxRecDepth 20000 in
theorem ggX10_ends_X10_copies : GoodIn wsX10_ends wsX10_copies := goodIn_ca (goodIn_r _ [8, 9, 10, 11, 12, 13, 14, 15, 16, 17, 18, 19, 20, 21, 22, 23, 24, 25, 26, 27] (by decide +kernel) (by decide +kernel)) (goodIn_sub (fun _ h => List.mem_cons_of_mem _ (List.mem_append_right _ h)) (by decide +kernel))
set_option maxRecDepth 20000 in
theorem gX10_ends_X10_copies : GoodIn wsX10_ends (wsV RX10 30 RX10 yX10_copies wsX10_copies) := goodIn_app (goodIn_of _ (by decide +kernel)) ggX10_ends_X10_copies
theorem dX10_ends_0 : decode cX10_ends 0 = .ok (.aload_n 0, 1) := by decide +kernel
theorem dX10_ends_1 : decode cX10_ends 1 = .ok (.iload_n 1, 1) := by decide +kernel
theorem dX10_ends_2 : decode cX10_ends 2 = .ok (.iconst 1, 1) := by decide +kernel
theorem dX10_ends_3 : decode cX10_ends 3 = .ok (.if_icmp .ne 7, 3) := by decide +kernel
theorem dX10_ends_6 : decode cX10_ends 6 = .ok (.iload_n 2, 1) := by decide +kernel
theorem dX10_ends_7 : decode cX10_ends 7 = .ok (.goto 23, 3) := by decide +kernel
theorem dX10_ends_10 : decode cX10_ends 10 = .ok (.iload_n 1, 1) := by decide +kernel
theorem dX10_ends_11 : decode cX10_ends 11 = .ok (.iconst 2, 1) := by decide +kernel
theorem dX10_ends_12 : decode cX10_ends 12 = .ok (.if_icmp .ne 7, 3) := by decide +kernel
theorem dX10_ends_15 : decode cX10_ends 15 = .ok (.iload_n 3, 1) := by decide +kernel
theorem dX10_ends_16 : decode cX10_ends 16 = .ok (.goto 14, 3) := by decide +kernel
theorem dX10_ends_19 : decode cX10_ends 19 = .ok (.iload_n 1, 1) := by decide +kernel
theorem dX10_ends_20 : decode cX10_ends 20 = .ok (.iconst 3, 1) := by decide +kernel
theorem dX10_ends_21 : decode cX10_ends 21 = .ok (.if_icmp .ne 8, 3) := by decide +kernel
theorem dX10_ends_24 : decode cX10_ends 24 = .ok (.iload 4, 2) := by decide +kernel
theorem dX10_ends_26 : decode cX10_ends 26 = .ok (.goto 4, 3) := by decide +kernel
theorem dX10_ends_29 : decode cX10_ends 29 = .ok (.iconst 0, 1) := by decide +kernel
theorem dX10_ends_30 : decode cX10_ends 30 = .ok (.putfield 27, 3) := by decide +kernel
theorem dX10_ends_33 : decode cX10_ends 33 = .ok (.aload_n 0, 1) := by decide +kernel
theorem dX10_ends_34 : decode cX10_ends 34 = .ok (.getfield 27, 3) := by decide +kernel
theorem dX10_ends_37 : decode cX10_ends 37 = .ok (.ifCond .eq 12, 3) := by decide +kernel
theorem dX10_ends_40 : decode cX10_ends 40 = .ok (.aload_n 0, 1) := by decide +kernel
theorem dX10_ends_41 : decode cX10_ends 41 = .ok (.bipush 10, 2) := by decide +kernel
theorem dX10_ends_43 : decode cX10_ends 43 = .ok (.iconst 0, 1) := by decide +kernel
theorem dX10_ends_44 : decode cX10_ends 44 = .ok (.invokevirtual 30, 3) := by decide +kernel
theorem dX10_ends_47 : decode cX10_ends 47 = .ok (.iconst 0, 1) := by decide +kernel
theorem dX10_ends_48 : decode cX10_ends 48 = .ok (.ireturn, 1) := by decide +kernel
theorem dX10_ends_49 : decode cX10_ends 49 = .ok (.aload_n 0, 1) := by decide +kernel
theorem dX10_ends_50 : decode cX10_ends 50 = .ok (.getfield 34, 3) := by decide +kernel
theorem dX10_ends_53 : decode cX10_ends 53 = .ok (.bipush 8, 2) := by decide +kernel
theorem dX10_ends_55 : decode cX10_ends 55 = .ok (.if_icmp .ne 39, 3) := by decide +kernel
theorem dX10_ends_58 : decode cX10_ends 58 = .ok (.iconst 1, 1) := by decide +kernel
theorem dX10_ends_59 : decode cX10_ends 59 = .ok (.istore 5, 2) := by decide +kernel
theorem dX10_ends_61 : decode cX10_ends 61 = .ok (.iload 5, 2) := by decide +kernel
theorem dX10_ends_63 : decode cX10_ends 63 = .ok (.bipush 8, 2) := by decide +kernel
theorem dX10_ends_65 : decode cX10_ends 65 = .ok (.if_icmp .ge 19, 3) := by decide +kernel
theorem dX10_ends_68 : decode cX10_ends 68 = .ok (.aload_n 0, 1) := by decide +kernel
theorem dX10_ends_69 : decode cX10_ends 69 = .ok (.iload 5, 2) := by decide +kernel
theorem dX10_ends_71 : decode cX10_ends 71 = .ok (.iconst 1, 1) := by decide +kernel
theorem dX10_ends_72 : decode cX10_ends 72 = .ok (.iadd, 1) := by decide +kernel
theorem dX10_ends_73 : decode cX10_ends 73 = .ok (.iload 5, 2) := by decide +kernel
theorem dX10_ends_75 : decode cX10_ends 75 = .ok (.invokevirtual 30, 3) := by decide +kernel
theorem dX10_ends_78 : decode cX10_ends 78 = .ok (.iinc 5 1, 3) := by decide +kernel
theorem dX10_ends_81 : decode cX10_ends 81 = .ok (.goto (-20), 3) := by decide +kernel
theorem dX10_ends_84 : decode cX10_ends 84 = .ok (.aload_n 0, 1) := by decide +kernel
theorem dX10_ends_85 : decode cX10_ends 85 = .ok (.dup, 1) := by decide +kernel
theorem dX10_ends_86 : decode cX10_ends 86 = .ok (.getfield 34, 3) := by decide +kernel
theorem dX10_ends_89 : decode cX10_ends 89 = .ok (.iconst 1, 1) := by decide +kernel
theorem dX10_ends_90 : decode cX10_ends 90 = .ok (.isub, 1) := by decide +kernel
theorem dX10_ends_91 : decode cX10_ends 91 = .ok (.putfield 34, 3) := by decide +kernel
theorem dX10_ends_94 : decode cX10_ends 94 = .ok (.aload_n 0, 1) := by decide +kernel
theorem dX10_ends_95 : decode cX10_ends 95 = .ok (.dup, 1) := by decide +kernel
theorem dX10_ends_96 : decode cX10_ends 96 = .ok (.getfield 34, 3) := by decide +kernel
theorem dX10_ends_99 : decode cX10_ends 99 = .ok (.iconst 1, 1) := by decide +kernel
theorem dX10_ends_100 : decode cX10_ends 100 = .ok (.iadd, 1) := by decide +kernel
theorem dX10_ends_101 : decode cX10_ends 101 = .ok (.putfield 34, 3) := by decide +kernel
theorem dX10_ends_104 : decode cX10_ends 104 = .ok (.aload_n 0, 1) := by decide +kernel
theorem dX10_ends_105 : decode cX10_ends 105 = .ok (.bipush 10, 2) := by decide +kernel
theorem dX10_ends_107 : decode cX10_ends 107 = .ok (.aload_n 0, 1) := by decide +kernel
theorem dX10_ends_108 : decode cX10_ends 108 = .ok (.getfield 34, 3) := by decide +kernel
theorem dX10_ends_111 : decode cX10_ends 111 = .ok (.invokevirtual 30, 3) := by decide +kernel
theorem dX10_ends_114 : decode cX10_ends 114 = .ok (.aload_n 0, 1) := by decide +kernel
theorem dX10_ends_115 : decode cX10_ends 115 = .ok (.getfield 37, 3) := by decide +kernel
theorem dX10_ends_118 : decode cX10_ends 118 = .ok (.ireturn, 1) := by decide +kernel
theorem dX10_isFine_0 : decode cX10_isFine 0 = .ok (.aload_n 0, 1) := by decide +kernel
theorem dX10_isFine_1 : decode cX10_isFine 1 = .ok (.iload_n 1, 1) := by decide +kernel
theorem dX10_isFine_2 : decode cX10_isFine 2 = .ok (.ifCond .eq 7, 3) := by decide +kernel
theorem dX10_isFine_5 : decode cX10_isFine 5 = .ok (.iconst 0, 1) := by decide +kernel
theorem dX10_isFine_6 : decode cX10_isFine 6 = .ok (.goto 4, 3) := by decide +kernel
theorem dX10_isFine_9 : decode cX10_isFine 9 = .ok (.iconst 1, 1) := by decide +kernel
theorem dX10_isFine_10 : decode cX10_isFine 10 = .ok (.putfield 27, 3) := by decide +kernel
theorem dX10_isFine_13 : decode cX10_isFine 13 = .ok (.iload_n 1, 1) := by decide +kernel
theorem dX10_isFine_14 : decode cX10_isFine 14 = .ok (.ireturn, 1) := by decide +kernel
theorem dX10_rejects_0 : decode cX10_rejects 0 = .ok (.iload_n 1, 1) := by decide +kernel
theorem dX10_rejects_1 : decode cX10_rejects 1 = .ok (.ifCond .eq 18, 3) := by decide +kernel
theorem dX10_rejects_4 : decode cX10_rejects 4 = .ok (.aload_n 0, 1) := by decide +kernel
theorem dX10_rejects_5 : decode cX10_rejects 5 = .ok (.iload_n 2, 1) := by decide +kernel
theorem dX10_rejects_6 : decode cX10_rejects 6 = .ok (.putfield 40, 3) := by decide +kernel
theorem dX10_rejects_9 : decode cX10_rejects 9 = .ok (.aload_n 0, 1) := by decide +kernel
theorem dX10_rejects_10 : decode cX10_rejects 10 = .ok (.iload_n 3, 1) := by decide +kernel
theorem dX10_rejects_11 : decode cX10_rejects 11 = .ok (.putfield 43, 3) := by decide +kernel
theorem dX10_rejects_14 : decode cX10_rejects 14 = .ok (.aload_n 0, 1) := by decide +kernel
theorem dX10_rejects_15 : decode cX10_rejects 15 = .ok (.iconst 0, 1) := by decide +kernel
theorem dX10_rejects_16 : decode cX10_rejects 16 = .ok (.putfield 46, 3) := by decide +kernel
theorem dX10_rejects_19 : decode cX10_rejects 19 = .ok (.iload_n 1, 1) := by decide +kernel
theorem dX10_rejects_20 : decode cX10_rejects 20 = .ok (.ireturn, 1) := by decide +kernel
set_option maxRecDepth 20000 in
theorem ggX10_rejectionReason_X10_isFine : GoodIn wsX10_rejectionReason wsX10_isFine := goodIn_r _ [6, 7, 8, 9, 10, 11, 12, 13, 14, 15, 16, 17, 18, 19, 20, 21, 22, 23, 24, 25] (by decide +kernel) (by decide +kernel)
set_option maxRecDepth 20000 in
theorem gX10_rejectionReason_X10_isFine : GoodIn wsX10_rejectionReason (wsV RX10 49 RX10 yX10_isFine wsX10_isFine) := goodIn_app (goodIn_of _ (by decide +kernel)) ggX10_rejectionReason_X10_isFine
theorem dX10_rejectionReason_0 : decode cX10_rejectionReason 0 = .ok (.aload_n 0, 1) := by decide +kernel
theorem dX10_rejectionReason_1 : decode cX10_rejectionReason 1 = .ok (.aload_n 0, 1) := by decide +kernel
theorem dX10_rejectionReason_2 : decode cX10_rejectionReason 2 = .ok (.getfield 40, 3) := by decide +kernel
theorem dX10_rejectionReason_5 : decode cX10_rejectionReason 5 = .ok (.ifCond .eq 7, 3) := by decide +kernel
theorem dX10_rejectionReason_8 : decode cX10_rejectionReason 8 = .ok (.iconst 1, 1) := by decide +kernel
theorem dX10_rejectionReason_9 : decode cX10_rejectionReason 9 = .ok (.goto 4, 3) := by decide +kernel
theorem dX10_rejectionReason_12 : decode cX10_rejectionReason 12 = .ok (.iconst 0, 1) := by decide +kernel
theorem dX10_rejectionReason_13 : decode cX10_rejectionReason 13 = .ok (.invokevirtual 49, 3) := by decide +kernel
theorem dX10_rejectionReason_16 : decode cX10_rejectionReason 16 = .ok (.ifCond .eq 10, 3) := by decide +kernel
theorem dX10_rejectionReason_19 : decode cX10_rejectionReason 19 = .ok (.aload_n 0, 1) := by decide +kernel
theorem dX10_rejectionReason_20 : decode cX10_rejectionReason 20 = .ok (.getfield 40, 3) := by decide +kernel
theorem dX10_rejectionReason_23 : decode cX10_rejectionReason 23 = .ok (.goto 4, 3) := by decide +kernel
theorem dX10_rejectionReason_26 : decode cX10_rejectionReason 26 = .ok (.iconst 0, 1) := by decide +kernel
theorem dX10_rejectionReason_27 : decode cX10_rejectionReason 27 = .ok (.ireturn, 1) := by decide +kernel
set_option maxRecDepth 20000 in
theorem ggX10_rejectionDetail_X10_isFine : GoodIn wsX10_rejectionDetail wsX10_isFine := goodIn_r _ [7, 8, 9, 10, 11, 12, 13, 14, 15, 16, 17, 18, 19, 20, 21, 22, 23, 24, 25, 26] (by decide +kernel) (by decide +kernel)
set_option maxRecDepth 20000 in
theorem gX10_rejectionDetail_X10_isFine : GoodIn wsX10_rejectionDetail (wsV RX10 49 RX10 yX10_isFine wsX10_isFine) := goodIn_app (goodIn_of _ (by decide +kernel)) ggX10_rejectionDetail_X10_isFine
theorem dX10_rejectionDetail_0 : decode cX10_rejectionDetail 0 = .ok (.aload_n 0, 1) := by decide +kernel
theorem dX10_rejectionDetail_1 : decode cX10_rejectionDetail 1 = .ok (.aload_n 0, 1) := by decide +kernel
theorem dX10_rejectionDetail_2 : decode cX10_rejectionDetail 2 = .ok (.getfield 40, 3) := by decide +kernel
theorem dX10_rejectionDetail_5 : decode cX10_rejectionDetail 5 = .ok (.ifCond .eq 7, 3) := by decide +kernel
theorem dX10_rejectionDetail_8 : decode cX10_rejectionDetail 8 = .ok (.iconst 1, 1) := by decide +kernel
theorem dX10_rejectionDetail_9 : decode cX10_rejectionDetail 9 = .ok (.goto 4, 3) := by decide +kernel
theorem dX10_rejectionDetail_12 : decode cX10_rejectionDetail 12 = .ok (.iconst 0, 1) := by decide +kernel
theorem dX10_rejectionDetail_13 : decode cX10_rejectionDetail 13 = .ok (.invokevirtual 49, 3) := by decide +kernel
theorem dX10_rejectionDetail_16 : decode cX10_rejectionDetail 16 = .ok (.ifCond .eq 10, 3) := by decide +kernel
theorem dX10_rejectionDetail_19 : decode cX10_rejectionDetail 19 = .ok (.aload_n 0, 1) := by decide +kernel
theorem dX10_rejectionDetail_20 : decode cX10_rejectionDetail 20 = .ok (.getfield 43, 3) := by decide +kernel
theorem dX10_rejectionDetail_23 : decode cX10_rejectionDetail 23 = .ok (.goto 4, 3) := by decide +kernel
theorem dX10_rejectionDetail_26 : decode cX10_rejectionDetail 26 = .ok (.iconst 0, 1) := by decide +kernel
theorem dX10_rejectionDetail_27 : decode cX10_rejectionDetail 27 = .ok (.ireturn, 1) := by decide +kernel
set_option maxRecDepth 20000 in
theorem ggX10_causeReason_X10_isFine : GoodIn wsX10_causeReason wsX10_isFine := goodIn_r _ [6, 7, 8, 9, 10, 11, 12, 13, 14, 15, 16, 17, 18, 19, 20, 21, 22, 23, 24, 25] (by decide +kernel) (by decide +kernel)
set_option maxRecDepth 20000 in
theorem gX10_causeReason_X10_isFine : GoodIn wsX10_causeReason (wsV RX10 49 RX10 yX10_isFine wsX10_isFine) := goodIn_app (goodIn_of _ (by decide +kernel)) ggX10_causeReason_X10_isFine
theorem dX10_causeReason_0 : decode cX10_causeReason 0 = .ok (.aload_n 0, 1) := by decide +kernel
theorem dX10_causeReason_1 : decode cX10_causeReason 1 = .ok (.aload_n 0, 1) := by decide +kernel
theorem dX10_causeReason_2 : decode cX10_causeReason 2 = .ok (.getfield 46, 3) := by decide +kernel
theorem dX10_causeReason_5 : decode cX10_causeReason 5 = .ok (.ifCond .eq 7, 3) := by decide +kernel
theorem dX10_causeReason_8 : decode cX10_causeReason 8 = .ok (.iconst 1, 1) := by decide +kernel
theorem dX10_causeReason_9 : decode cX10_causeReason 9 = .ok (.goto 4, 3) := by decide +kernel
theorem dX10_causeReason_12 : decode cX10_causeReason 12 = .ok (.iconst 0, 1) := by decide +kernel
theorem dX10_causeReason_13 : decode cX10_causeReason 13 = .ok (.invokevirtual 49, 3) := by decide +kernel
theorem dX10_causeReason_16 : decode cX10_causeReason 16 = .ok (.ifCond .eq 10, 3) := by decide +kernel
theorem dX10_causeReason_19 : decode cX10_causeReason 19 = .ok (.aload_n 0, 1) := by decide +kernel
theorem dX10_causeReason_20 : decode cX10_causeReason 20 = .ok (.getfield 46, 3) := by decide +kernel
theorem dX10_causeReason_23 : decode cX10_causeReason 23 = .ok (.goto 4, 3) := by decide +kernel
theorem dX10_causeReason_26 : decode cX10_causeReason 26 = .ok (.iconst 0, 1) := by decide +kernel
theorem dX10_causeReason_27 : decode cX10_causeReason 27 = .ok (.ireturn, 1) := by decide +kernel
set_option maxRecDepth 20000 in
theorem ggX10_causeDetail_X10_isFine : GoodIn wsX10_causeDetail wsX10_isFine := goodIn_r _ [7, 8, 9, 10, 11, 12, 13, 14, 15, 16, 17, 18, 19, 20, 21, 22, 23, 24, 25, 26] (by decide +kernel) (by decide +kernel)
set_option maxRecDepth 20000 in
theorem gX10_causeDetail_X10_isFine : GoodIn wsX10_causeDetail (wsV RX10 49 RX10 yX10_isFine wsX10_isFine) := goodIn_app (goodIn_of _ (by decide +kernel)) ggX10_causeDetail_X10_isFine
theorem dX10_causeDetail_0 : decode cX10_causeDetail 0 = .ok (.aload_n 0, 1) := by decide +kernel
theorem dX10_causeDetail_1 : decode cX10_causeDetail 1 = .ok (.aload_n 0, 1) := by decide +kernel
theorem dX10_causeDetail_2 : decode cX10_causeDetail 2 = .ok (.getfield 46, 3) := by decide +kernel
theorem dX10_causeDetail_5 : decode cX10_causeDetail 5 = .ok (.ifCond .eq 7, 3) := by decide +kernel
theorem dX10_causeDetail_8 : decode cX10_causeDetail 8 = .ok (.iconst 1, 1) := by decide +kernel
theorem dX10_causeDetail_9 : decode cX10_causeDetail 9 = .ok (.goto 4, 3) := by decide +kernel
theorem dX10_causeDetail_12 : decode cX10_causeDetail 12 = .ok (.iconst 0, 1) := by decide +kernel
theorem dX10_causeDetail_13 : decode cX10_causeDetail 13 = .ok (.invokevirtual 49, 3) := by decide +kernel
theorem dX10_causeDetail_16 : decode cX10_causeDetail 16 = .ok (.ifCond .eq 10, 3) := by decide +kernel
theorem dX10_causeDetail_19 : decode cX10_causeDetail 19 = .ok (.aload_n 0, 1) := by decide +kernel
theorem dX10_causeDetail_20 : decode cX10_causeDetail 20 = .ok (.getfield 53, 3) := by decide +kernel
theorem dX10_causeDetail_23 : decode cX10_causeDetail 23 = .ok (.goto 4, 3) := by decide +kernel
theorem dX10_causeDetail_26 : decode cX10_causeDetail 26 = .ok (.iconst 0, 1) := by decide +kernel
theorem dX10_causeDetail_27 : decode cX10_causeDetail 27 = .ok (.ireturn, 1) := by decide +kernel
theorem dX10_p_0 : decode cX10_p 0 = .ok (.aload_n 0, 1) := by decide +kernel
theorem dX10_p_1 : decode cX10_p 1 = .ok (.getfield 9, 3) := by decide +kernel
theorem dX10_p_4 : decode cX10_p 4 = .ok (.bipush 19, 2) := by decide +kernel
theorem dX10_p_6 : decode cX10_p 6 = .ok (.bipush 9, 2) := by decide +kernel
theorem dX10_p_8 : decode cX10_p 8 = .ok (.iload_n 1, 1) := by decide +kernel
theorem dX10_p_9 : decode cX10_p 9 = .ok (.imul, 1) := by decide +kernel
theorem dX10_p_10 : decode cX10_p 10 = .ok (.iadd, 1) := by decide +kernel
theorem dX10_p_11 : decode cX10_p 11 = .ok (.iload_n 2, 1) := by decide +kernel
theorem dX10_p_12 : decode cX10_p 12 = .ok (.iadd, 1) := by decide +kernel
theorem dX10_p_13 : decode cX10_p 13 = .ok (.iaload, 1) := by decide +kernel
theorem dX10_p_14 : decode cX10_p 14 = .ok (.ireturn, 1) := by decide +kernel
theorem dX10_set_0 : decode cX10_set 0 = .ok (.aload_n 0, 1) := by decide +kernel
theorem dX10_set_1 : decode cX10_set 1 = .ok (.getfield 9, 3) := by decide +kernel
theorem dX10_set_4 : decode cX10_set 4 = .ok (.bipush 19, 2) := by decide +kernel
theorem dX10_set_6 : decode cX10_set 6 = .ok (.bipush 9, 2) := by decide +kernel
theorem dX10_set_8 : decode cX10_set 8 = .ok (.iload_n 1, 1) := by decide +kernel
theorem dX10_set_9 : decode cX10_set 9 = .ok (.imul, 1) := by decide +kernel
theorem dX10_set_10 : decode cX10_set 10 = .ok (.iadd, 1) := by decide +kernel
theorem dX10_set_11 : decode cX10_set 11 = .ok (.iload_n 2, 1) := by decide +kernel
theorem dX10_set_12 : decode cX10_set 12 = .ok (.iadd, 1) := by decide +kernel
theorem dX10_set_13 : decode cX10_set 13 = .ok (.iload_n 3, 1) := by decide +kernel
theorem dX10_set_14 : decode cX10_set 14 = .ok (.iastore, 1) := by decide +kernel
theorem dX10_set_15 : decode cX10_set 15 = .ok (.return_, 1) := by decide +kernel
set_option maxRecDepth 20000 in
theorem ggX10_find_X10_p : GoodIn wsX10_find wsX10_p := goodIn_ca (goodIn_r _ [6, 1, 7, 8, 9, 10, 11, 12, 13, 14, 15, 16, 17, 18, 19, 20, 21, 22, 23, 24] (by decide +kernel) (by decide +kernel)) (goodIn_sub (fun _ h => List.mem_cons_of_mem _ (List.mem_append_right _ h)) (by decide +kernel))
set_option maxRecDepth 20000 in
theorem gX10_find_X10_p : GoodIn wsX10_find (wsV RX10 56 RX10 yX10_p wsX10_p) := goodIn_app (goodIn_of _ (by decide +kernel)) ggX10_find_X10_p
theorem dX10_find_0 : decode cX10_find 0 = .ok (.iconst 0, 1) := by decide +kernel
theorem dX10_find_1 : decode cX10_find 1 = .ok (.istore_n 2, 1) := by decide +kernel
theorem dX10_find_2 : decode cX10_find 2 = .ok (.iload_n 2, 1) := by decide +kernel
theorem dX10_find_3 : decode cX10_find 3 = .ok (.aload_n 0, 1) := by decide +kernel
theorem dX10_find_4 : decode cX10_find 4 = .ok (.getfield 9, 3) := by decide +kernel
theorem dX10_find_7 : decode cX10_find 7 = .ok (.iconst 1, 1) := by decide +kernel
theorem dX10_find_8 : decode cX10_find 8 = .ok (.iaload, 1) := by decide +kernel
theorem dX10_find_9 : decode cX10_find 9 = .ok (.if_icmp .ge 21, 3) := by decide +kernel
theorem dX10_find_12 : decode cX10_find 12 = .ok (.aload_n 0, 1) := by decide +kernel
theorem dX10_find_13 : decode cX10_find 13 = .ok (.iload_n 2, 1) := by decide +kernel
theorem dX10_find_14 : decode cX10_find 14 = .ok (.iconst 0, 1) := by decide +kernel
theorem dX10_find_15 : decode cX10_find 15 = .ok (.invokevirtual 56, 3) := by decide +kernel
theorem dX10_find_18 : decode cX10_find 18 = .ok (.iload_n 1, 1) := by decide +kernel
theorem dX10_find_19 : decode cX10_find 19 = .ok (.if_icmp .ne 5, 3) := by decide +kernel
theorem dX10_find_22 : decode cX10_find 22 = .ok (.iload_n 2, 1) := by decide +kernel
theorem dX10_find_23 : decode cX10_find 23 = .ok (.ireturn, 1) := by decide +kernel
theorem dX10_find_24 : decode cX10_find 24 = .ok (.iinc 2 1, 3) := by decide +kernel
theorem dX10_find_27 : decode cX10_find 27 = .ok (.goto (-25), 3) := by decide +kernel
theorem dX10_find_30 : decode cX10_find 30 = .ok (.iconst (-1), 1) := by decide +kernel
theorem dX10_find_31 : decode cX10_find 31 = .ok (.ireturn, 1) := by decide +kernel
theorem dX10_findTrack_0 : decode cX10_findTrack 0 = .ok (.iconst 0, 1) := by decide +kernel
theorem dX10_findTrack_1 : decode cX10_findTrack 1 = .ok (.istore_n 2, 1) := by decide +kernel
theorem dX10_findTrack_2 : decode cX10_findTrack 2 = .ok (.iload_n 2, 1) := by decide +kernel
theorem dX10_findTrack_3 : decode cX10_findTrack 3 = .ok (.aload_n 0, 1) := by decide +kernel
theorem dX10_findTrack_4 : decode cX10_findTrack 4 = .ok (.getfield 9, 3) := by decide +kernel
theorem dX10_findTrack_7 : decode cX10_findTrack 7 = .ok (.iconst 0, 1) := by decide +kernel
theorem dX10_findTrack_8 : decode cX10_findTrack 8 = .ok (.iaload, 1) := by decide +kernel
theorem dX10_findTrack_9 : decode cX10_findTrack 9 = .ok (.if_icmp .ge 26, 3) := by decide +kernel
theorem dX10_findTrack_12 : decode cX10_findTrack 12 = .ok (.aload_n 0, 1) := by decide +kernel
theorem dX10_findTrack_13 : decode cX10_findTrack 13 = .ok (.getfield 9, 3) := by decide +kernel
theorem dX10_findTrack_16 : decode cX10_findTrack 16 = .ok (.bipush 7, 2) := by decide +kernel
theorem dX10_findTrack_18 : decode cX10_findTrack 18 = .ok (.iconst 2, 1) := by decide +kernel
theorem dX10_findTrack_19 : decode cX10_findTrack 19 = .ok (.iload_n 2, 1) := by decide +kernel
theorem dX10_findTrack_20 : decode cX10_findTrack 20 = .ok (.imul, 1) := by decide +kernel
theorem dX10_findTrack_21 : decode cX10_findTrack 21 = .ok (.iadd, 1) := by decide +kernel
theorem dX10_findTrack_22 : decode cX10_findTrack 22 = .ok (.iaload, 1) := by decide +kernel
theorem dX10_findTrack_23 : decode cX10_findTrack 23 = .ok (.iload_n 1, 1) := by decide +kernel
theorem dX10_findTrack_24 : decode cX10_findTrack 24 = .ok (.if_icmp .ne 5, 3) := by decide +kernel
theorem dX10_findTrack_27 : decode cX10_findTrack 27 = .ok (.iload_n 2, 1) := by decide +kernel
theorem dX10_findTrack_28 : decode cX10_findTrack 28 = .ok (.ireturn, 1) := by decide +kernel
theorem dX10_findTrack_29 : decode cX10_findTrack 29 = .ok (.iinc 2 1, 3) := by decide +kernel
theorem dX10_findTrack_32 : decode cX10_findTrack 32 = .ok (.goto (-30), 3) := by decide +kernel
theorem dX10_findTrack_35 : decode cX10_findTrack 35 = .ok (.iconst (-1), 1) := by decide +kernel
theorem dX10_findTrack_36 : decode cX10_findTrack 36 = .ok (.ireturn, 1) := by decide +kernel
set_option maxRecDepth 20000 in
theorem ggX10_isCell_X10_in : GoodIn wsX10_isCell wsX10_in := goodIn_r _ [4] (by decide +kernel) (by decide +kernel)
set_option maxRecDepth 20000 in
theorem gX10_isCell_X10_in : GoodIn wsX10_isCell (va_wsS RX10 60 yX10_in wsX10_in) := goodIn_app (goodIn_of _ (by decide +kernel)) ggX10_isCell_X10_in
theorem dX10_isCell_0 : decode cX10_isCell 0 = .ok (.iload_n 0, 1) := by decide +kernel
theorem dX10_isCell_1 : decode cX10_isCell 1 = .ok (.iconst 0, 1) := by decide +kernel
theorem dX10_isCell_2 : decode cX10_isCell 2 = .ok (.bipush 9, 2) := by decide +kernel
theorem dX10_isCell_4 : decode cX10_isCell 4 = .ok (.invokestatic 60, 3) := by decide +kernel
theorem dX10_isCell_7 : decode cX10_isCell 7 = .ok (.ifCond .eq 17, 3) := by decide +kernel
theorem dX10_isCell_10 : decode cX10_isCell 10 = .ok (.iload_n 1, 1) := by decide +kernel
theorem dX10_isCell_11 : decode cX10_isCell 11 = .ok (.iconst 0, 1) := by decide +kernel
theorem dX10_isCell_12 : decode cX10_isCell 12 = .ok (.bipush 19, 2) := by decide +kernel
theorem dX10_isCell_14 : decode cX10_isCell 14 = .ok (.invokestatic 60, 3) := by decide +kernel
theorem dX10_isCell_17 : decode cX10_isCell 17 = .ok (.ifCond .eq 7, 3) := by decide +kernel
theorem dX10_isCell_20 : decode cX10_isCell 20 = .ok (.iconst 1, 1) := by decide +kernel
theorem dX10_isCell_21 : decode cX10_isCell 21 = .ok (.goto 4, 3) := by decide +kernel
theorem dX10_isCell_24 : decode cX10_isCell 24 = .ok (.iconst 0, 1) := by decide +kernel
theorem dX10_isCell_25 : decode cX10_isCell 25 = .ok (.ireturn, 1) := by decide +kernel
set_option maxRecDepth 20000 in
theorem ggX10_inCell_X10_p : GoodIn wsX10_inCell wsX10_p := goodIn_ca (goodIn_r _ [6, 1, 7, 8, 9, 10, 11, 12, 13, 14, 15, 16, 17, 18, 19, 20, 21, 22, 23, 24] (by decide +kernel) (by decide +kernel)) (goodIn_sub (fun _ h => List.mem_cons_of_mem _ (List.mem_append_right _ h)) (by decide +kernel))
set_option maxRecDepth 20000 in
theorem gX10_inCell_X10_p : GoodIn wsX10_inCell (wsV RX10 56 RX10 yX10_p wsX10_p) := goodIn_app (goodIn_of _ (by decide +kernel)) ggX10_inCell_X10_p
theorem dX10_inCell_0 : decode cX10_inCell 0 = .ok (.iconst 0, 1) := by decide +kernel
theorem dX10_inCell_1 : decode cX10_inCell 1 = .ok (.istore_n 3, 1) := by decide +kernel
theorem dX10_inCell_2 : decode cX10_inCell 2 = .ok (.iload_n 3, 1) := by decide +kernel
theorem dX10_inCell_3 : decode cX10_inCell 3 = .ok (.aload_n 0, 1) := by decide +kernel
theorem dX10_inCell_4 : decode cX10_inCell 4 = .ok (.getfield 9, 3) := by decide +kernel
theorem dX10_inCell_7 : decode cX10_inCell 7 = .ok (.iconst 1, 1) := by decide +kernel
theorem dX10_inCell_8 : decode cX10_inCell 8 = .ok (.iaload, 1) := by decide +kernel
theorem dX10_inCell_9 : decode cX10_inCell 9 = .ok (.if_icmp .ge 31, 3) := by decide +kernel
theorem dX10_inCell_12 : decode cX10_inCell 12 = .ok (.aload_n 0, 1) := by decide +kernel
theorem dX10_inCell_13 : decode cX10_inCell 13 = .ok (.iload_n 3, 1) := by decide +kernel
theorem dX10_inCell_14 : decode cX10_inCell 14 = .ok (.iconst 3, 1) := by decide +kernel
theorem dX10_inCell_15 : decode cX10_inCell 15 = .ok (.invokevirtual 56, 3) := by decide +kernel
theorem dX10_inCell_18 : decode cX10_inCell 18 = .ok (.iload_n 1, 1) := by decide +kernel
theorem dX10_inCell_19 : decode cX10_inCell 19 = .ok (.if_icmp .ne 15, 3) := by decide +kernel
theorem dX10_inCell_22 : decode cX10_inCell 22 = .ok (.aload_n 0, 1) := by decide +kernel
theorem dX10_inCell_23 : decode cX10_inCell 23 = .ok (.iload_n 3, 1) := by decide +kernel
theorem dX10_inCell_24 : decode cX10_inCell 24 = .ok (.iconst 4, 1) := by decide +kernel
theorem dX10_inCell_25 : decode cX10_inCell 25 = .ok (.invokevirtual 56, 3) := by decide +kernel
theorem dX10_inCell_28 : decode cX10_inCell 28 = .ok (.iload_n 2, 1) := by decide +kernel
theorem dX10_inCell_29 : decode cX10_inCell 29 = .ok (.if_icmp .ne 5, 3) := by decide +kernel
theorem dX10_inCell_32 : decode cX10_inCell 32 = .ok (.iload_n 3, 1) := by decide +kernel
theorem dX10_inCell_33 : decode cX10_inCell 33 = .ok (.ireturn, 1) := by decide +kernel
theorem dX10_inCell_34 : decode cX10_inCell 34 = .ok (.iinc 3 1, 3) := by decide +kernel
theorem dX10_inCell_37 : decode cX10_inCell 37 = .ok (.goto (-35), 3) := by decide +kernel
theorem dX10_inCell_40 : decode cX10_inCell 40 = .ok (.iconst (-1), 1) := by decide +kernel
theorem dX10_inCell_41 : decode cX10_inCell 41 = .ok (.ireturn, 1) := by decide +kernel
set_option maxRecDepth 20000 in
theorem ggX10_beside_X10_p : GoodIn wsX10_beside wsX10_p := goodIn_ca (goodIn_r _ [6, 1, 7, 8, 9, 10, 11, 12, 13, 14, 15, 16, 17, 18, 19, 20, 21, 22, 23, 24] (by decide +kernel) (by decide +kernel)) (goodIn_sub (fun _ h => List.mem_cons_of_mem _ (List.mem_append_right _ h)) (by decide +kernel))
set_option maxRecDepth 20000 in
theorem gX10_beside_X10_p : GoodIn wsX10_beside (wsV RX10 56 RX10 yX10_p wsX10_p) := goodIn_app (goodIn_of _ (by decide +kernel)) ggX10_beside_X10_p
theorem dX10_beside_0 : decode cX10_beside 0 = .ok (.iconst (-1), 1) := by decide +kernel
theorem dX10_beside_1 : decode cX10_beside 1 = .ok (.istore_n 3, 1) := by decide +kernel
theorem dX10_beside_2 : decode cX10_beside 2 = .ok (.iconst 0, 1) := by decide +kernel
theorem dX10_beside_3 : decode cX10_beside 3 = .ok (.istore 4, 2) := by decide +kernel
theorem dX10_beside_5 : decode cX10_beside 5 = .ok (.iload 4, 2) := by decide +kernel
theorem dX10_beside_7 : decode cX10_beside 7 = .ok (.aload_n 0, 1) := by decide +kernel
theorem dX10_beside_8 : decode cX10_beside 8 = .ok (.getfield 9, 3) := by decide +kernel
theorem dX10_beside_11 : decode cX10_beside 11 = .ok (.iconst 1, 1) := by decide +kernel
theorem dX10_beside_12 : decode cX10_beside 12 = .ok (.iaload, 1) := by decide +kernel
theorem dX10_beside_13 : decode cX10_beside 13 = .ok (.if_icmp .ge 131, 3) := by decide +kernel
theorem dX10_beside_16 : decode cX10_beside 16 = .ok (.iload_n 2, 1) := by decide +kernel
theorem dX10_beside_17 : decode cX10_beside 17 = .ok (.ifCond .eq 20, 3) := by decide +kernel
theorem dX10_beside_20 : decode cX10_beside 20 = .ok (.aload_n 0, 1) := by decide +kernel
theorem dX10_beside_21 : decode cX10_beside 21 = .ok (.iload 4, 2) := by decide +kernel
theorem dX10_beside_23 : decode cX10_beside 23 = .ok (.iconst 2, 1) := by decide +kernel
theorem dX10_beside_24 : decode cX10_beside 24 = .ok (.invokevirtual 56, 3) := by decide +kernel
theorem dX10_beside_27 : decode cX10_beside 27 = .ok (.aload_n 0, 1) := by decide +kernel
theorem dX10_beside_28 : decode cX10_beside 28 = .ok (.iload_n 1, 1) := by decide +kernel
theorem dX10_beside_29 : decode cX10_beside 29 = .ok (.iconst 2, 1) := by decide +kernel
theorem dX10_beside_30 : decode cX10_beside 30 = .ok (.invokevirtual 56, 3) := by decide +kernel
theorem dX10_beside_33 : decode cX10_beside 33 = .ok (.isub, 1) := by decide +kernel
theorem dX10_beside_34 : decode cX10_beside 34 = .ok (.goto 17, 3) := by decide +kernel
theorem dX10_beside_37 : decode cX10_beside 37 = .ok (.aload_n 0, 1) := by decide +kernel
theorem dX10_beside_38 : decode cX10_beside 38 = .ok (.iload_n 1, 1) := by decide +kernel
theorem dX10_beside_39 : decode cX10_beside 39 = .ok (.iconst 2, 1) := by decide +kernel
theorem dX10_beside_40 : decode cX10_beside 40 = .ok (.invokevirtual 56, 3) := by decide +kernel
theorem dX10_beside_43 : decode cX10_beside 43 = .ok (.aload_n 0, 1) := by decide +kernel
theorem dX10_beside_44 : decode cX10_beside 44 = .ok (.iload 4, 2) := by decide +kernel
theorem dX10_beside_46 : decode cX10_beside 46 = .ok (.iconst 2, 1) := by decide +kernel
theorem dX10_beside_47 : decode cX10_beside 47 = .ok (.invokevirtual 56, 3) := by decide +kernel
theorem dX10_beside_50 : decode cX10_beside 50 = .ok (.isub, 1) := by decide +kernel
theorem dX10_beside_51 : decode cX10_beside 51 = .ok (.istore 5, 2) := by decide +kernel
theorem dX10_beside_53 : decode cX10_beside 53 = .ok (.aload_n 0, 1) := by decide +kernel
theorem dX10_beside_54 : decode cX10_beside 54 = .ok (.iload 4, 2) := by decide +kernel
theorem dX10_beside_56 : decode cX10_beside 56 = .ok (.iconst 1, 1) := by decide +kernel
theorem dX10_beside_57 : decode cX10_beside 57 = .ok (.invokevirtual 56, 3) := by decide +kernel
theorem dX10_beside_60 : decode cX10_beside 60 = .ok (.aload_n 0, 1) := by decide +kernel
theorem dX10_beside_61 : decode cX10_beside 61 = .ok (.iload_n 1, 1) := by decide +kernel
theorem dX10_beside_62 : decode cX10_beside 62 = .ok (.iconst 1, 1) := by decide +kernel
theorem dX10_beside_63 : decode cX10_beside 63 = .ok (.invokevirtual 56, 3) := by decide +kernel
theorem dX10_beside_66 : decode cX10_beside 66 = .ok (.if_icmp .ne 72, 3) := by decide +kernel
theorem dX10_beside_69 : decode cX10_beside 69 = .ok (.iload 5, 2) := by decide +kernel
theorem dX10_beside_71 : decode cX10_beside 71 = .ok (.ifCond .gt 6, 3) := by decide +kernel
theorem dX10_beside_74 : decode cX10_beside 74 = .ok (.goto 64, 3) := by decide +kernel
theorem dX10_beside_77 : decode cX10_beside 77 = .ok (.iload_n 3, 1) := by decide +kernel
theorem dX10_beside_78 : decode cX10_beside 78 = .ok (.iconst (-1), 1) := by decide +kernel
theorem dX10_beside_79 : decode cX10_beside 79 = .ok (.if_icmp .ne 10, 3) := by decide +kernel
theorem dX10_beside_82 : decode cX10_beside 82 = .ok (.iload 5, 2) := by decide +kernel
theorem dX10_beside_84 : decode cX10_beside 84 = .ok (.iconst 1, 1) := by decide +kernel
theorem dX10_beside_85 : decode cX10_beside 85 = .ok (.iadd, 1) := by decide +kernel
theorem dX10_beside_86 : decode cX10_beside 86 = .ok (.goto 36, 3) := by decide +kernel
theorem dX10_beside_89 : decode cX10_beside 89 = .ok (.iload_n 2, 1) := by decide +kernel
theorem dX10_beside_90 : decode cX10_beside 90 = .ok (.ifCond .eq 19, 3) := by decide +kernel
theorem dX10_beside_93 : decode cX10_beside 93 = .ok (.aload_n 0, 1) := by decide +kernel
theorem dX10_beside_94 : decode cX10_beside 94 = .ok (.iload_n 3, 1) := by decide +kernel
theorem dX10_beside_95 : decode cX10_beside 95 = .ok (.iconst 2, 1) := by decide +kernel
theorem dX10_beside_96 : decode cX10_beside 96 = .ok (.invokevirtual 56, 3) := by decide +kernel
theorem dX10_beside_99 : decode cX10_beside 99 = .ok (.aload_n 0, 1) := by decide +kernel
theorem dX10_beside_100 : decode cX10_beside 100 = .ok (.iload_n 1, 1) := by decide +kernel
theorem dX10_beside_101 : decode cX10_beside 101 = .ok (.iconst 2, 1) := by decide +kernel
theorem dX10_beside_102 : decode cX10_beside 102 = .ok (.invokevirtual 56, 3) := by decide +kernel
theorem dX10_beside_105 : decode cX10_beside 105 = .ok (.isub, 1) := by decide +kernel
theorem dX10_beside_106 : decode cX10_beside 106 = .ok (.goto 16, 3) := by decide +kernel
theorem dX10_beside_109 : decode cX10_beside 109 = .ok (.aload_n 0, 1) := by decide +kernel
theorem dX10_beside_110 : decode cX10_beside 110 = .ok (.iload_n 1, 1) := by decide +kernel
theorem dX10_beside_111 : decode cX10_beside 111 = .ok (.iconst 2, 1) := by decide +kernel
theorem dX10_beside_112 : decode cX10_beside 112 = .ok (.invokevirtual 56, 3) := by decide +kernel
theorem dX10_beside_115 : decode cX10_beside 115 = .ok (.aload_n 0, 1) := by decide +kernel
theorem dX10_beside_116 : decode cX10_beside 116 = .ok (.iload_n 3, 1) := by decide +kernel
theorem dX10_beside_117 : decode cX10_beside 117 = .ok (.iconst 2, 1) := by decide +kernel
theorem dX10_beside_118 : decode cX10_beside 118 = .ok (.invokevirtual 56, 3) := by decide +kernel
theorem dX10_beside_121 : decode cX10_beside 121 = .ok (.isub, 1) := by decide +kernel
theorem dX10_beside_122 : decode cX10_beside 122 = .ok (.istore 6, 2) := by decide +kernel
theorem dX10_beside_124 : decode cX10_beside 124 = .ok (.iload 5, 2) := by decide +kernel
theorem dX10_beside_126 : decode cX10_beside 126 = .ok (.iload 6, 2) := by decide +kernel
theorem dX10_beside_128 : decode cX10_beside 128 = .ok (.if_icmp .ge 8, 3) := by decide +kernel
theorem dX10_beside_131 : decode cX10_beside 131 = .ok (.iload 4, 2) := by decide +kernel
theorem dX10_beside_133 : decode cX10_beside 133 = .ok (.goto 4, 3) := by decide +kernel
theorem dX10_beside_136 : decode cX10_beside 136 = .ok (.iload_n 3, 1) := by decide +kernel
theorem dX10_beside_137 : decode cX10_beside 137 = .ok (.istore_n 3, 1) := by decide +kernel
theorem dX10_beside_138 : decode cX10_beside 138 = .ok (.iinc 4 1, 3) := by decide +kernel
theorem dX10_beside_141 : decode cX10_beside 141 = .ok (.goto (-136), 3) := by decide +kernel
theorem dX10_beside_144 : decode cX10_beside 144 = .ok (.iload_n 3, 1) := by decide +kernel
theorem dX10_beside_145 : decode cX10_beside 145 = .ok (.ireturn, 1) := by decide +kernel
theorem dX10_size_0 : decode cX10_size 0 = .ok (.iload_n 0, 1) := by decide +kernel
theorem dX10_size_1 : decode cX10_size 1 = .ok (.ifCond .ge 8, 3) := by decide +kernel
theorem dX10_size_4 : decode cX10_size 4 = .ok (.iload_n 0, 1) := by decide +kernel
theorem dX10_size_5 : decode cX10_size 5 = .ok (.ineg, 1) := by decide +kernel
theorem dX10_size_6 : decode cX10_size 6 = .ok (.goto 4, 3) := by decide +kernel
theorem dX10_size_9 : decode cX10_size 9 = .ok (.iload_n 0, 1) := by decide +kernel
theorem dX10_size_10 : decode cX10_size 10 = .ok (.ireturn, 1) := by decide +kernel
set_option maxRecDepth 20000 in
theorem ggX10_distance_X10_p : GoodIn wsX10_distance wsX10_p := goodIn_ca (goodIn_r _ [5, 6, 10, 11, 12, 13, 14, 15, 16, 17, 18, 19, 20, 21, 22, 23, 24, 25, 26, 27] (by decide +kernel) (by decide +kernel)) (goodIn_sub (fun _ h => List.mem_cons_of_mem _ (List.mem_append_right _ h)) (by decide +kernel))
set_option maxRecDepth 20000 in
theorem gX10_distance_X10_p : GoodIn wsX10_distance (wsV RX10 56 RX10 yX10_p wsX10_p) := goodIn_app (goodIn_of _ (by decide +kernel)) ggX10_distance_X10_p
set_option maxRecDepth 20000 in
theorem ggX10_distance_X10_size : GoodIn wsX10_distance wsX10_size := goodIn_r _ [9] (by decide +kernel) (by decide +kernel)
set_option maxRecDepth 20000 in
theorem gX10_distance_X10_size : GoodIn wsX10_distance (va_wsS RX10 64 yX10_size wsX10_size) := goodIn_app (goodIn_of _ (by decide +kernel)) ggX10_distance_X10_size
theorem dX10_distance_0 : decode cX10_distance 0 = .ok (.aload_n 0, 1) := by decide +kernel
theorem dX10_distance_1 : decode cX10_distance 1 = .ok (.iload_n 1, 1) := by decide +kernel
theorem dX10_distance_2 : decode cX10_distance 2 = .ok (.iconst 3, 1) := by decide +kernel
theorem dX10_distance_3 : decode cX10_distance 3 = .ok (.invokevirtual 56, 3) := by decide +kernel
theorem dX10_distance_6 : decode cX10_distance 6 = .ok (.iload_n 2, 1) := by decide +kernel
theorem dX10_distance_7 : decode cX10_distance 7 = .ok (.isub, 1) := by decide +kernel
theorem dX10_distance_8 : decode cX10_distance 8 = .ok (.invokestatic 64, 3) := by decide +kernel
theorem dX10_distance_11 : decode cX10_distance 11 = .ok (.aload_n 0, 1) := by decide +kernel
theorem dX10_distance_12 : decode cX10_distance 12 = .ok (.iload_n 1, 1) := by decide +kernel
theorem dX10_distance_13 : decode cX10_distance 13 = .ok (.iconst 4, 1) := by decide +kernel
theorem dX10_distance_14 : decode cX10_distance 14 = .ok (.invokevirtual 56, 3) := by decide +kernel
theorem dX10_distance_17 : decode cX10_distance 17 = .ok (.iload_n 3, 1) := by decide +kernel
theorem dX10_distance_18 : decode cX10_distance 18 = .ok (.isub, 1) := by decide +kernel
theorem dX10_distance_19 : decode cX10_distance 19 = .ok (.invokestatic 64, 3) := by decide +kernel
theorem dX10_distance_22 : decode cX10_distance 22 = .ok (.iadd, 1) := by decide +kernel
theorem dX10_distance_23 : decode cX10_distance 23 = .ok (.ireturn, 1) := by decide +kernel
set_option maxRecDepth 20000 in
theorem ggX10_strideAt_X10_beside : GoodIn wsX10_strideAt wsX10_beside := goodIn_ca (goodIn_r _ [5, 6, 7, 8, 9, 4, 10, 18, 19, 20, 21, 22, 23, 24, 25, 26, 27, 28, 29, 30, 31, 32, 33, 34, 35] (by decide +kernel) (by decide +kernel)) (goodIn_sub (fun _ h => List.mem_cons_of_mem _ (List.mem_append_right _ h)) (by decide +kernel))
set_option maxRecDepth 20000 in
theorem gX10_strideAt_X10_beside : GoodIn wsX10_strideAt (wsV RX10 68 RX10 yX10_beside wsX10_beside) := goodIn_app (goodIn_of _ (by decide +kernel)) ggX10_strideAt_X10_beside
set_option maxRecDepth 20000 in
theorem ggX10_strideAt_X10_p : GoodIn wsX10_strideAt wsX10_p := goodIn_ca (goodIn_r _ [10, 6, 18, 19, 20, 21, 22, 23, 24, 25, 26, 27, 28, 29, 30, 31, 32, 33, 34, 35] (by decide +kernel) (by decide +kernel)) (goodIn_sub (fun _ h => List.mem_cons_of_mem _ (List.mem_append_right _ h)) (by decide +kernel))
set_option maxRecDepth 20000 in
theorem gX10_strideAt_X10_p : GoodIn wsX10_strideAt (wsV RX10 56 RX10 yX10_p wsX10_p) := goodIn_app (goodIn_of _ (by decide +kernel)) ggX10_strideAt_X10_p
set_option maxRecDepth 20000 in
theorem ggX10_strideAt_X10_distance : GoodIn wsX10_strideAt wsX10_distance := goodIn_ca (goodIn_r _ [14, 7, 8, 9, 4, 10, 6, 15, 16, 17, 18, 19, 20, 21, 22, 23, 24, 25, 26, 27, 28, 29, 30, 31, 32, 33, 34, 35] (by decide +kernel) (by decide +kernel)) (goodIn_sub (fun _ h => List.mem_cons_of_mem _ (List.mem_append_right _ h)) (by decide +kernel))
set_option maxRecDepth 20000 in
theorem gX10_strideAt_X10_distance : GoodIn wsX10_strideAt (wsV RX10 72 RX10 yX10_distance wsX10_distance) := goodIn_app (goodIn_of _ (by decide +kernel)) ggX10_strideAt_X10_distance
theorem dX10_strideAt_0 : decode cX10_strideAt 0 = .ok (.aload_n 0, 1) := by decide +kernel
theorem dX10_strideAt_1 : decode cX10_strideAt 1 = .ok (.iload_n 1, 1) := by decide +kernel
theorem dX10_strideAt_2 : decode cX10_strideAt 2 = .ok (.iconst 0, 1) := by decide +kernel
theorem dX10_strideAt_3 : decode cX10_strideAt 3 = .ok (.invokevirtual 68, 3) := by decide +kernel
theorem dX10_strideAt_6 : decode cX10_strideAt 6 = .ok (.istore_n 2, 1) := by decide +kernel
theorem dX10_strideAt_7 : decode cX10_strideAt 7 = .ok (.iload_n 2, 1) := by decide +kernel
theorem dX10_strideAt_8 : decode cX10_strideAt 8 = .ok (.ifCond .ge 7, 3) := by decide +kernel
theorem dX10_strideAt_11 : decode cX10_strideAt 11 = .ok (.iconst 0, 1) := by decide +kernel
theorem dX10_strideAt_12 : decode cX10_strideAt 12 = .ok (.goto 20, 3) := by decide +kernel
theorem dX10_strideAt_15 : decode cX10_strideAt 15 = .ok (.aload_n 0, 1) := by decide +kernel
theorem dX10_strideAt_16 : decode cX10_strideAt 16 = .ok (.iload_n 2, 1) := by decide +kernel
theorem dX10_strideAt_17 : decode cX10_strideAt 17 = .ok (.aload_n 0, 1) := by decide +kernel
theorem dX10_strideAt_18 : decode cX10_strideAt 18 = .ok (.iload_n 1, 1) := by decide +kernel
theorem dX10_strideAt_19 : decode cX10_strideAt 19 = .ok (.iconst 3, 1) := by decide +kernel
theorem dX10_strideAt_20 : decode cX10_strideAt 20 = .ok (.invokevirtual 56, 3) := by decide +kernel
theorem dX10_strideAt_23 : decode cX10_strideAt 23 = .ok (.aload_n 0, 1) := by decide +kernel
theorem dX10_strideAt_24 : decode cX10_strideAt 24 = .ok (.iload_n 1, 1) := by decide +kernel
theorem dX10_strideAt_25 : decode cX10_strideAt 25 = .ok (.iconst 4, 1) := by decide +kernel
theorem dX10_strideAt_26 : decode cX10_strideAt 26 = .ok (.invokevirtual 56, 3) := by decide +kernel
theorem dX10_strideAt_29 : decode cX10_strideAt 29 = .ok (.invokevirtual 72, 3) := by decide +kernel
theorem dX10_strideAt_32 : decode cX10_strideAt 32 = .ok (.ireturn, 1) := by decide +kernel
set_option maxRecDepth 20000 in
theorem ggX10_hasError_X10_beside : GoodIn wsX10_hasError wsX10_beside := goodIn_ca (goodIn_r _ [6, 1, 7, 8, 9, 5, 10, 26, 27, 28, 29, 30, 31, 32, 33, 34, 35, 36, 37, 38, 39, 40, 41, 42, 43] (by decide +kernel) (by decide +kernel)) (goodIn_sub (fun _ h => List.mem_cons_of_mem _ (List.mem_append_right _ h)) (by decide +kernel))
set_option maxRecDepth 20000 in
theorem gX10_hasError_X10_beside : GoodIn wsX10_hasError (wsV RX10 68 RX10 yX10_beside wsX10_beside) := goodIn_app (goodIn_of _ (by decide +kernel)) ggX10_hasError_X10_beside
set_option maxRecDepth 20000 in
theorem ggX10_hasError_X10_strideAt : GoodIn wsX10_hasError wsX10_strideAt := goodIn_ca (goodIn_r _ [14, 2, 3, 4, 5, 6, 1, 7, 8, 9, 10, 15, 16, 17, 18, 19, 20, 21, 26, 27, 28, 29, 30, 31, 32, 33, 34, 35, 36, 37, 38, 39, 40, 41, 42, 43] (by decide +kernel) (by decide +kernel)) (goodIn_sub (fun _ h => List.mem_cons_of_mem _ (List.mem_append_right _ h)) (by decide +kernel))
set_option maxRecDepth 20000 in
theorem gX10_hasError_X10_strideAt : GoodIn wsX10_hasError (wsV RX10 76 RX10 yX10_strideAt wsX10_strideAt) := goodIn_app (goodIn_of _ (by decide +kernel)) ggX10_hasError_X10_strideAt
set_option maxRecDepth 20000 in
theorem ggX10_hasError_X10_p : GoodIn wsX10_hasError wsX10_p := goodIn_ca (goodIn_r _ [10, 1, 26, 27, 28, 29, 30, 31, 32, 33, 34, 35, 36, 37, 38, 39, 40, 41, 42, 43] (by decide +kernel) (by decide +kernel)) (goodIn_sub (fun _ h => List.mem_cons_of_mem _ (List.mem_append_right _ h)) (by decide +kernel))
set_option maxRecDepth 20000 in
theorem gX10_hasError_X10_p : GoodIn wsX10_hasError (wsV RX10 56 RX10 yX10_p wsX10_p) := goodIn_app (goodIn_of _ (by decide +kernel)) ggX10_hasError_X10_p
set_option maxRecDepth 20000 in
theorem ggX10_hasError_X10_findTrack : GoodIn wsX10_hasError wsX10_findTrack := goodIn_ca (goodIn_r _ [25, 1, 26, 27, 28, 29, 30, 31, 32, 33, 34, 35, 36, 37, 38, 39, 40, 41, 42, 43] (by decide +kernel) (by decide +kernel)) (goodIn_sub (fun _ h => List.mem_cons_of_mem _ (List.mem_append_right _ h)) (by decide +kernel))
set_option maxRecDepth 20000 in
theorem gX10_hasError_X10_findTrack : GoodIn wsX10_hasError (wsV RX10 79 RX10 yX10_findTrack wsX10_findTrack) := goodIn_app (goodIn_of _ (by decide +kernel)) ggX10_hasError_X10_findTrack
set_option maxRecDepth 20000 in
theorem ggX10_hasError_X10_size : GoodIn wsX10_hasError wsX10_size := goodIn_r _ [21] (by decide +kernel) (by decide +kernel)
set_option maxRecDepth 20000 in
theorem gX10_hasError_X10_size : GoodIn wsX10_hasError (va_wsS RX10 64 yX10_size wsX10_size) := goodIn_app (goodIn_of _ (by decide +kernel)) ggX10_hasError_X10_size
theorem dX10_hasError_0 : decode cX10_hasError 0 = .ok (.aload_n 0, 1) := by decide +kernel
theorem dX10_hasError_1 : decode cX10_hasError 1 = .ok (.iload_n 1, 1) := by decide +kernel
theorem dX10_hasError_2 : decode cX10_hasError 2 = .ok (.iconst 0, 1) := by decide +kernel
theorem dX10_hasError_3 : decode cX10_hasError 3 = .ok (.invokevirtual 68, 3) := by decide +kernel
theorem dX10_hasError_6 : decode cX10_hasError 6 = .ok (.istore_n 3, 1) := by decide +kernel
theorem dX10_hasError_7 : decode cX10_hasError 7 = .ok (.iload_n 3, 1) := by decide +kernel
theorem dX10_hasError_8 : decode cX10_hasError 8 = .ok (.ifCond .ge 5, 3) := by decide +kernel
theorem dX10_hasError_11 : decode cX10_hasError 11 = .ok (.iconst 0, 1) := by decide +kernel
theorem dX10_hasError_12 : decode cX10_hasError 12 = .ok (.ireturn, 1) := by decide +kernel
theorem dX10_hasError_13 : decode cX10_hasError 13 = .ok (.iload_n 2, 1) := by decide +kernel
theorem dX10_hasError_14 : decode cX10_hasError 14 = .ok (.ifCond .ne 39, 3) := by decide +kernel
theorem dX10_hasError_17 : decode cX10_hasError 17 = .ok (.aload_n 0, 1) := by decide +kernel
theorem dX10_hasError_18 : decode cX10_hasError 18 = .ok (.iload_n 1, 1) := by decide +kernel
theorem dX10_hasError_19 : decode cX10_hasError 19 = .ok (.invokevirtual 76, 3) := by decide +kernel
theorem dX10_hasError_22 : decode cX10_hasError 22 = .ok (.aload_n 0, 1) := by decide +kernel
theorem dX10_hasError_23 : decode cX10_hasError 23 = .ok (.getfield 9, 3) := by decide +kernel
theorem dX10_hasError_26 : decode cX10_hasError 26 = .ok (.bipush 7, 2) := by decide +kernel
theorem dX10_hasError_28 : decode cX10_hasError 28 = .ok (.iconst 2, 1) := by decide +kernel
theorem dX10_hasError_29 : decode cX10_hasError 29 = .ok (.aload_n 0, 1) := by decide +kernel
theorem dX10_hasError_30 : decode cX10_hasError 30 = .ok (.aload_n 0, 1) := by decide +kernel
theorem dX10_hasError_31 : decode cX10_hasError 31 = .ok (.iload_n 1, 1) := by decide +kernel
theorem dX10_hasError_32 : decode cX10_hasError 32 = .ok (.iconst 1, 1) := by decide +kernel
theorem dX10_hasError_33 : decode cX10_hasError 33 = .ok (.invokevirtual 56, 3) := by decide +kernel
theorem dX10_hasError_36 : decode cX10_hasError 36 = .ok (.invokevirtual 79, 3) := by decide +kernel
theorem dX10_hasError_39 : decode cX10_hasError 39 = .ok (.imul, 1) := by decide +kernel
theorem dX10_hasError_40 : decode cX10_hasError 40 = .ok (.iadd, 1) := by decide +kernel
theorem dX10_hasError_41 : decode cX10_hasError 41 = .ok (.iconst 1, 1) := by decide +kernel
theorem dX10_hasError_42 : decode cX10_hasError 42 = .ok (.iadd, 1) := by decide +kernel
theorem dX10_hasError_43 : decode cX10_hasError 43 = .ok (.iaload, 1) := by decide +kernel
theorem dX10_hasError_44 : decode cX10_hasError 44 = .ok (.if_icmp .le 7, 3) := by decide +kernel
theorem dX10_hasError_47 : decode cX10_hasError 47 = .ok (.iconst 1, 1) := by decide +kernel
theorem dX10_hasError_48 : decode cX10_hasError 48 = .ok (.goto 4, 3) := by decide +kernel
theorem dX10_hasError_51 : decode cX10_hasError 51 = .ok (.iconst 0, 1) := by decide +kernel
theorem dX10_hasError_52 : decode cX10_hasError 52 = .ok (.ireturn, 1) := by decide +kernel
theorem dX10_hasError_53 : decode cX10_hasError 53 = .ok (.iload_n 2, 1) := by decide +kernel
theorem dX10_hasError_54 : decode cX10_hasError 54 = .ok (.iconst 1, 1) := by decide +kernel
theorem dX10_hasError_55 : decode cX10_hasError 55 = .ok (.if_icmp .ne 26, 3) := by decide +kernel
theorem dX10_hasError_58 : decode cX10_hasError 58 = .ok (.aload_n 0, 1) := by decide +kernel
theorem dX10_hasError_59 : decode cX10_hasError 59 = .ok (.iload_n 1, 1) := by decide +kernel
theorem dX10_hasError_60 : decode cX10_hasError 60 = .ok (.iconst 5, 1) := by decide +kernel
theorem dX10_hasError_61 : decode cX10_hasError 61 = .ok (.invokevirtual 56, 3) := by decide +kernel
theorem dX10_hasError_64 : decode cX10_hasError 64 = .ok (.aload_n 0, 1) := by decide +kernel
theorem dX10_hasError_65 : decode cX10_hasError 65 = .ok (.iload_n 3, 1) := by decide +kernel
theorem dX10_hasError_66 : decode cX10_hasError 66 = .ok (.iconst 5, 1) := by decide +kernel
theorem dX10_hasError_67 : decode cX10_hasError 67 = .ok (.invokevirtual 56, 3) := by decide +kernel
theorem dX10_hasError_70 : decode cX10_hasError 70 = .ok (.if_icmp .ne 7, 3) := by decide +kernel
theorem dX10_hasError_73 : decode cX10_hasError 73 = .ok (.iconst 1, 1) := by decide +kernel
theorem dX10_hasError_74 : decode cX10_hasError 74 = .ok (.goto 34, 3) := by decide +kernel
theorem dX10_hasError_77 : decode cX10_hasError 77 = .ok (.iconst 0, 1) := by decide +kernel
theorem dX10_hasError_78 : decode cX10_hasError 78 = .ok (.goto 30, 3) := by decide +kernel
theorem dX10_hasError_81 : decode cX10_hasError 81 = .ok (.aload_n 0, 1) := by decide +kernel
theorem dX10_hasError_82 : decode cX10_hasError 82 = .ok (.iload_n 1, 1) := by decide +kernel
theorem dX10_hasError_83 : decode cX10_hasError 83 = .ok (.bipush 6, 2) := by decide +kernel
theorem dX10_hasError_85 : decode cX10_hasError 85 = .ok (.invokevirtual 56, 3) := by decide +kernel
theorem dX10_hasError_88 : decode cX10_hasError 88 = .ok (.aload_n 0, 1) := by decide +kernel
theorem dX10_hasError_89 : decode cX10_hasError 89 = .ok (.iload_n 3, 1) := by decide +kernel
theorem dX10_hasError_90 : decode cX10_hasError 90 = .ok (.bipush 6, 2) := by decide +kernel
theorem dX10_hasError_92 : decode cX10_hasError 92 = .ok (.invokevirtual 56, 3) := by decide +kernel
theorem dX10_hasError_95 : decode cX10_hasError 95 = .ok (.isub, 1) := by decide +kernel
theorem dX10_hasError_96 : decode cX10_hasError 96 = .ok (.invokestatic 64, 3) := by decide +kernel
theorem dX10_hasError_99 : decode cX10_hasError 99 = .ok (.iconst 3, 1) := by decide +kernel
theorem dX10_hasError_100 : decode cX10_hasError 100 = .ok (.if_icmp .le 7, 3) := by decide +kernel
theorem dX10_hasError_103 : decode cX10_hasError 103 = .ok (.iconst 1, 1) := by decide +kernel
theorem dX10_hasError_104 : decode cX10_hasError 104 = .ok (.goto 4, 3) := by decide +kernel
theorem dX10_hasError_107 : decode cX10_hasError 107 = .ok (.iconst 0, 1) := by decide +kernel
theorem dX10_hasError_108 : decode cX10_hasError 108 = .ok (.ireturn, 1) := by decide +kernel
set_option maxRecDepth 20000 in
theorem ggX10_errorsAt_X10_hasError : GoodIn wsX10_errorsAt wsX10_hasError := goodIn_ca (goodIn_r _ [5, 6, 7, 8, 9, 4, 10, 11, 12, 13, 14, 15, 16, 17, 18, 19, 20, 21, 22, 23, 24, 25, 26, 27, 28, 29, 30, 31, 32, 33, 34, 35, 36, 37, 38, 39, 40, 41, 42, 43, 44, 45, 46, 47] (by decide +kernel) (by decide +kernel)) (goodIn_sub (fun _ h => List.mem_cons_of_mem _ (List.mem_append_right _ h)) (by decide +kernel))
set_option maxRecDepth 20000 in
theorem gX10_errorsAt_X10_hasError : GoodIn wsX10_errorsAt (wsV RX10 82 RX10 yX10_hasError wsX10_hasError) := goodIn_app (goodIn_of _ (by decide +kernel)) ggX10_errorsAt_X10_hasError
theorem dX10_errorsAt_0 : decode cX10_errorsAt 0 = .ok (.aload_n 0, 1) := by decide +kernel
theorem dX10_errorsAt_1 : decode cX10_errorsAt 1 = .ok (.iload_n 1, 1) := by decide +kernel
theorem dX10_errorsAt_2 : decode cX10_errorsAt 2 = .ok (.iconst 0, 1) := by decide +kernel
theorem dX10_errorsAt_3 : decode cX10_errorsAt 3 = .ok (.invokevirtual 82, 3) := by decide +kernel
theorem dX10_errorsAt_6 : decode cX10_errorsAt 6 = .ok (.ifCond .eq 7, 3) := by decide +kernel
theorem dX10_errorsAt_9 : decode cX10_errorsAt 9 = .ok (.iconst 1, 1) := by decide +kernel
theorem dX10_errorsAt_10 : decode cX10_errorsAt 10 = .ok (.goto 4, 3) := by decide +kernel
theorem dX10_errorsAt_13 : decode cX10_errorsAt 13 = .ok (.iconst 0, 1) := by decide +kernel
theorem dX10_errorsAt_14 : decode cX10_errorsAt 14 = .ok (.aload_n 0, 1) := by decide +kernel
theorem dX10_errorsAt_15 : decode cX10_errorsAt 15 = .ok (.iload_n 1, 1) := by decide +kernel
theorem dX10_errorsAt_16 : decode cX10_errorsAt 16 = .ok (.iconst 1, 1) := by decide +kernel
theorem dX10_errorsAt_17 : decode cX10_errorsAt 17 = .ok (.invokevirtual 82, 3) := by decide +kernel
theorem dX10_errorsAt_20 : decode cX10_errorsAt 20 = .ok (.ifCond .eq 7, 3) := by decide +kernel
theorem dX10_errorsAt_23 : decode cX10_errorsAt 23 = .ok (.iconst 1, 1) := by decide +kernel
theorem dX10_errorsAt_24 : decode cX10_errorsAt 24 = .ok (.goto 4, 3) := by decide +kernel
theorem dX10_errorsAt_27 : decode cX10_errorsAt 27 = .ok (.iconst 0, 1) := by decide +kernel
theorem dX10_errorsAt_28 : decode cX10_errorsAt 28 = .ok (.iadd, 1) := by decide +kernel
theorem dX10_errorsAt_29 : decode cX10_errorsAt 29 = .ok (.aload_n 0, 1) := by decide +kernel
theorem dX10_errorsAt_30 : decode cX10_errorsAt 30 = .ok (.iload_n 1, 1) := by decide +kernel
theorem dX10_errorsAt_31 : decode cX10_errorsAt 31 = .ok (.iconst 2, 1) := by decide +kernel
theorem dX10_errorsAt_32 : decode cX10_errorsAt 32 = .ok (.invokevirtual 82, 3) := by decide +kernel
theorem dX10_errorsAt_35 : decode cX10_errorsAt 35 = .ok (.ifCond .eq 7, 3) := by decide +kernel
theorem dX10_errorsAt_38 : decode cX10_errorsAt 38 = .ok (.iconst 1, 1) := by decide +kernel
theorem dX10_errorsAt_39 : decode cX10_errorsAt 39 = .ok (.goto 4, 3) := by decide +kernel
theorem dX10_errorsAt_42 : decode cX10_errorsAt 42 = .ok (.iconst 0, 1) := by decide +kernel
theorem dX10_errorsAt_43 : decode cX10_errorsAt 43 = .ok (.iadd, 1) := by decide +kernel
theorem dX10_errorsAt_44 : decode cX10_errorsAt 44 = .ok (.ireturn, 1) := by decide +kernel
set_option maxRecDepth 20000 in
theorem ggX10_countOf_X10_p : GoodIn wsX10_countOf wsX10_p := goodIn_ca (goodIn_r _ [6, 1, 7, 8, 9, 10, 11, 12, 13, 14, 15, 16, 17, 18, 19, 20, 21, 22, 23, 24] (by decide +kernel) (by decide +kernel)) (goodIn_sub (fun _ h => List.mem_cons_of_mem _ (List.mem_append_right _ h)) (by decide +kernel))
set_option maxRecDepth 20000 in
theorem gX10_countOf_X10_p : GoodIn wsX10_countOf (wsV RX10 56 RX10 yX10_p wsX10_p) := goodIn_app (goodIn_of _ (by decide +kernel)) ggX10_countOf_X10_p
theorem dX10_countOf_0 : decode cX10_countOf 0 = .ok (.iconst 0, 1) := by decide +kernel
theorem dX10_countOf_1 : decode cX10_countOf 1 = .ok (.istore_n 2, 1) := by decide +kernel
theorem dX10_countOf_2 : decode cX10_countOf 2 = .ok (.iconst 0, 1) := by decide +kernel
theorem dX10_countOf_3 : decode cX10_countOf 3 = .ok (.istore_n 3, 1) := by decide +kernel
theorem dX10_countOf_4 : decode cX10_countOf 4 = .ok (.iload_n 3, 1) := by decide +kernel
theorem dX10_countOf_5 : decode cX10_countOf 5 = .ok (.aload_n 0, 1) := by decide +kernel
theorem dX10_countOf_6 : decode cX10_countOf 6 = .ok (.getfield 9, 3) := by decide +kernel
theorem dX10_countOf_9 : decode cX10_countOf 9 = .ok (.iconst 1, 1) := by decide +kernel
theorem dX10_countOf_10 : decode cX10_countOf 10 = .ok (.iaload, 1) := by decide +kernel
theorem dX10_countOf_11 : decode cX10_countOf 11 = .ok (.if_icmp .ge 27, 3) := by decide +kernel
theorem dX10_countOf_14 : decode cX10_countOf 14 = .ok (.iload_n 2, 1) := by decide +kernel
theorem dX10_countOf_15 : decode cX10_countOf 15 = .ok (.aload_n 0, 1) := by decide +kernel
theorem dX10_countOf_16 : decode cX10_countOf 16 = .ok (.iload_n 3, 1) := by decide +kernel
theorem dX10_countOf_17 : decode cX10_countOf 17 = .ok (.iconst 1, 1) := by decide +kernel
theorem dX10_countOf_18 : decode cX10_countOf 18 = .ok (.invokevirtual 56, 3) := by decide +kernel
theorem dX10_countOf_21 : decode cX10_countOf 21 = .ok (.iload_n 1, 1) := by decide +kernel
theorem dX10_countOf_22 : decode cX10_countOf 22 = .ok (.if_icmp .ne 7, 3) := by decide +kernel
theorem dX10_countOf_25 : decode cX10_countOf 25 = .ok (.iconst 1, 1) := by decide +kernel
theorem dX10_countOf_26 : decode cX10_countOf 26 = .ok (.goto 4, 3) := by decide +kernel
theorem dX10_countOf_29 : decode cX10_countOf 29 = .ok (.iconst 0, 1) := by decide +kernel
theorem dX10_countOf_30 : decode cX10_countOf 30 = .ok (.iadd, 1) := by decide +kernel
theorem dX10_countOf_31 : decode cX10_countOf 31 = .ok (.istore_n 2, 1) := by decide +kernel
theorem dX10_countOf_32 : decode cX10_countOf 32 = .ok (.iinc 3 1, 3) := by decide +kernel
theorem dX10_countOf_35 : decode cX10_countOf 35 = .ok (.goto (-31), 3) := by decide +kernel
theorem dX10_countOf_38 : decode cX10_countOf 38 = .ok (.iload_n 2, 1) := by decide +kernel
theorem dX10_countOf_39 : decode cX10_countOf 39 = .ok (.ireturn, 1) := by decide +kernel
set_option maxRecDepth 20000 in
theorem ggX10_errorsOf_X10_p : GoodIn wsX10_errorsOf wsX10_p := goodIn_ca (goodIn_r _ [6, 1, 34, 35, 36, 37, 38, 39, 40, 41, 42, 43, 44, 45, 46, 47, 48, 49, 50, 51] (by decide +kernel) (by decide +kernel)) (goodIn_sub (fun _ h => List.mem_cons_of_mem _ (List.mem_append_right _ h)) (by decide +kernel))
set_option maxRecDepth 20000 in
theorem gX10_errorsOf_X10_p : GoodIn wsX10_errorsOf (wsV RX10 56 RX10 yX10_p wsX10_p) := goodIn_app (goodIn_of _ (by decide +kernel)) ggX10_errorsOf_X10_p
set_option maxRecDepth 20000 in
theorem ggX10_errorsOf_X10_errorsAt : GoodIn wsX10_errorsOf wsX10_errorsAt := goodIn_ca (goodIn_r _ [10, 11, 12, 13, 5, 14, 1, 15, 16, 17, 18, 2, 3, 4, 6, 19, 20, 21, 22, 23, 24, 25, 26, 27, 28, 29, 30, 31, 32, 33, 34, 35, 36, 37, 38, 39, 40, 41, 42, 43, 44, 45, 46, 47, 48, 49, 50, 51] (by decide +kernel) (by decide +kernel)) (goodIn_sub (fun _ h => List.mem_cons_of_mem _ (List.mem_append_right _ h)) (by decide +kernel))
set_option maxRecDepth 20000 in
theorem gX10_errorsOf_X10_errorsAt : GoodIn wsX10_errorsOf (wsV RX10 86 RX10 yX10_errorsAt wsX10_errorsAt) := goodIn_app (goodIn_of _ (by decide +kernel)) ggX10_errorsOf_X10_errorsAt
theorem dX10_errorsOf_0 : decode cX10_errorsOf 0 = .ok (.iconst 0, 1) := by decide +kernel
theorem dX10_errorsOf_1 : decode cX10_errorsOf 1 = .ok (.istore_n 2, 1) := by decide +kernel
theorem dX10_errorsOf_2 : decode cX10_errorsOf 2 = .ok (.iconst 0, 1) := by decide +kernel
theorem dX10_errorsOf_3 : decode cX10_errorsOf 3 = .ok (.istore_n 3, 1) := by decide +kernel
theorem dX10_errorsOf_4 : decode cX10_errorsOf 4 = .ok (.iload_n 3, 1) := by decide +kernel
theorem dX10_errorsOf_5 : decode cX10_errorsOf 5 = .ok (.aload_n 0, 1) := by decide +kernel
theorem dX10_errorsOf_6 : decode cX10_errorsOf 6 = .ok (.getfield 9, 3) := by decide +kernel
theorem dX10_errorsOf_9 : decode cX10_errorsOf 9 = .ok (.iconst 1, 1) := by decide +kernel
theorem dX10_errorsOf_10 : decode cX10_errorsOf 10 = .ok (.iaload, 1) := by decide +kernel
theorem dX10_errorsOf_11 : decode cX10_errorsOf 11 = .ok (.if_icmp .ge 31, 3) := by decide +kernel
theorem dX10_errorsOf_14 : decode cX10_errorsOf 14 = .ok (.iload_n 2, 1) := by decide +kernel
theorem dX10_errorsOf_15 : decode cX10_errorsOf 15 = .ok (.aload_n 0, 1) := by decide +kernel
theorem dX10_errorsOf_16 : decode cX10_errorsOf 16 = .ok (.iload_n 3, 1) := by decide +kernel
theorem dX10_errorsOf_17 : decode cX10_errorsOf 17 = .ok (.iconst 1, 1) := by decide +kernel
theorem dX10_errorsOf_18 : decode cX10_errorsOf 18 = .ok (.invokevirtual 56, 3) := by decide +kernel
theorem dX10_errorsOf_21 : decode cX10_errorsOf 21 = .ok (.iload_n 1, 1) := by decide +kernel
theorem dX10_errorsOf_22 : decode cX10_errorsOf 22 = .ok (.if_icmp .ne 11, 3) := by decide +kernel
theorem dX10_errorsOf_25 : decode cX10_errorsOf 25 = .ok (.aload_n 0, 1) := by decide +kernel
theorem dX10_errorsOf_26 : decode cX10_errorsOf 26 = .ok (.iload_n 3, 1) := by decide +kernel
theorem dX10_errorsOf_27 : decode cX10_errorsOf 27 = .ok (.invokevirtual 86, 3) := by decide +kernel
theorem dX10_errorsOf_30 : decode cX10_errorsOf 30 = .ok (.goto 4, 3) := by decide +kernel
theorem dX10_errorsOf_33 : decode cX10_errorsOf 33 = .ok (.iconst 0, 1) := by decide +kernel
theorem dX10_errorsOf_34 : decode cX10_errorsOf 34 = .ok (.iadd, 1) := by decide +kernel
theorem dX10_errorsOf_35 : decode cX10_errorsOf 35 = .ok (.istore_n 2, 1) := by decide +kernel
theorem dX10_errorsOf_36 : decode cX10_errorsOf 36 = .ok (.iinc 3 1, 3) := by decide +kernel
theorem dX10_errorsOf_39 : decode cX10_errorsOf 39 = .ok (.goto (-35), 3) := by decide +kernel
theorem dX10_errorsOf_42 : decode cX10_errorsOf 42 = .ok (.iload_n 2, 1) := by decide +kernel
theorem dX10_errorsOf_43 : decode cX10_errorsOf 43 = .ok (.ireturn, 1) := by decide +kernel
set_option maxRecDepth 20000 in
theorem ggX10_lengthOf_X10_p : GoodIn wsX10_lengthOf wsX10_p := goodIn_ca (goodIn_r _ [6, 1, 22, 23, 24, 25, 26, 27, 28, 29, 30, 31, 32, 33, 34, 35, 36, 37, 38, 39] (by decide +kernel) (by decide +kernel)) (goodIn_sub (fun _ h => List.mem_cons_of_mem _ (List.mem_append_right _ h)) (by decide +kernel))
set_option maxRecDepth 20000 in
theorem gX10_lengthOf_X10_p : GoodIn wsX10_lengthOf (wsV RX10 56 RX10 yX10_p wsX10_p) := goodIn_app (goodIn_of _ (by decide +kernel)) ggX10_lengthOf_X10_p
set_option maxRecDepth 20000 in
theorem ggX10_lengthOf_X10_strideAt : GoodIn wsX10_lengthOf wsX10_strideAt := goodIn_ca (goodIn_r _ [10, 11, 12, 13, 5, 14, 1, 2, 3, 4, 6, 15, 16, 17, 18, 19, 20, 21, 22, 23, 24, 25, 26, 27, 28, 29, 30, 31, 32, 33, 34, 35, 36, 37, 38, 39] (by decide +kernel) (by decide +kernel)) (goodIn_sub (fun _ h => List.mem_cons_of_mem _ (List.mem_append_right _ h)) (by decide +kernel))
set_option maxRecDepth 20000 in
theorem gX10_lengthOf_X10_strideAt : GoodIn wsX10_lengthOf (wsV RX10 76 RX10 yX10_strideAt wsX10_strideAt) := goodIn_app (goodIn_of _ (by decide +kernel)) ggX10_lengthOf_X10_strideAt
theorem dX10_lengthOf_0 : decode cX10_lengthOf 0 = .ok (.iconst 0, 1) := by decide +kernel
theorem dX10_lengthOf_1 : decode cX10_lengthOf 1 = .ok (.istore_n 2, 1) := by decide +kernel
theorem dX10_lengthOf_2 : decode cX10_lengthOf 2 = .ok (.iconst 0, 1) := by decide +kernel
theorem dX10_lengthOf_3 : decode cX10_lengthOf 3 = .ok (.istore_n 3, 1) := by decide +kernel
theorem dX10_lengthOf_4 : decode cX10_lengthOf 4 = .ok (.iload_n 3, 1) := by decide +kernel
theorem dX10_lengthOf_5 : decode cX10_lengthOf 5 = .ok (.aload_n 0, 1) := by decide +kernel
theorem dX10_lengthOf_6 : decode cX10_lengthOf 6 = .ok (.getfield 9, 3) := by decide +kernel
theorem dX10_lengthOf_9 : decode cX10_lengthOf 9 = .ok (.iconst 1, 1) := by decide +kernel
theorem dX10_lengthOf_10 : decode cX10_lengthOf 10 = .ok (.iaload, 1) := by decide +kernel
theorem dX10_lengthOf_11 : decode cX10_lengthOf 11 = .ok (.if_icmp .ge 31, 3) := by decide +kernel
theorem dX10_lengthOf_14 : decode cX10_lengthOf 14 = .ok (.iload_n 2, 1) := by decide +kernel
theorem dX10_lengthOf_15 : decode cX10_lengthOf 15 = .ok (.aload_n 0, 1) := by decide +kernel
theorem dX10_lengthOf_16 : decode cX10_lengthOf 16 = .ok (.iload_n 3, 1) := by decide +kernel
theorem dX10_lengthOf_17 : decode cX10_lengthOf 17 = .ok (.iconst 1, 1) := by decide +kernel
theorem dX10_lengthOf_18 : decode cX10_lengthOf 18 = .ok (.invokevirtual 56, 3) := by decide +kernel
theorem dX10_lengthOf_21 : decode cX10_lengthOf 21 = .ok (.iload_n 1, 1) := by decide +kernel
theorem dX10_lengthOf_22 : decode cX10_lengthOf 22 = .ok (.if_icmp .ne 11, 3) := by decide +kernel
theorem dX10_lengthOf_25 : decode cX10_lengthOf 25 = .ok (.aload_n 0, 1) := by decide +kernel
theorem dX10_lengthOf_26 : decode cX10_lengthOf 26 = .ok (.iload_n 3, 1) := by decide +kernel
theorem dX10_lengthOf_27 : decode cX10_lengthOf 27 = .ok (.invokevirtual 76, 3) := by decide +kernel
theorem dX10_lengthOf_30 : decode cX10_lengthOf 30 = .ok (.goto 4, 3) := by decide +kernel
theorem dX10_lengthOf_33 : decode cX10_lengthOf 33 = .ok (.iconst 0, 1) := by decide +kernel
theorem dX10_lengthOf_34 : decode cX10_lengthOf 34 = .ok (.iadd, 1) := by decide +kernel
theorem dX10_lengthOf_35 : decode cX10_lengthOf 35 = .ok (.istore_n 2, 1) := by decide +kernel
theorem dX10_lengthOf_36 : decode cX10_lengthOf 36 = .ok (.iinc 3 1, 3) := by decide +kernel
theorem dX10_lengthOf_39 : decode cX10_lengthOf 39 = .ok (.goto (-35), 3) := by decide +kernel
theorem dX10_lengthOf_42 : decode cX10_lengthOf 42 = .ok (.iload_n 2, 1) := by decide +kernel
theorem dX10_lengthOf_43 : decode cX10_lengthOf 43 = .ok (.ireturn, 1) := by decide +kernel
set_option maxRecDepth 20000 in
theorem ggX10_printOf_X10_p : GoodIn wsX10_printOf wsX10_p := goodIn_ca (goodIn_r _ [6, 1, 7, 8, 9, 10, 11, 12, 13, 14, 15, 16, 17, 18, 19, 20, 21, 22, 23, 24] (by decide +kernel) (by decide +kernel)) (goodIn_sub (fun _ h => List.mem_cons_of_mem _ (List.mem_append_right _ h)) (by decide +kernel))
set_option maxRecDepth 20000 in
theorem gX10_printOf_X10_p : GoodIn wsX10_printOf (wsV RX10 56 RX10 yX10_p wsX10_p) := goodIn_app (goodIn_of _ (by decide +kernel)) ggX10_printOf_X10_p
theorem dX10_printOf_0 : decode cX10_printOf 0 = .ok (.iconst 0, 1) := by decide +kernel
theorem dX10_printOf_1 : decode cX10_printOf 1 = .ok (.istore_n 3, 1) := by decide +kernel
theorem dX10_printOf_2 : decode cX10_printOf 2 = .ok (.iload_n 3, 1) := by decide +kernel
theorem dX10_printOf_3 : decode cX10_printOf 3 = .ok (.aload_n 0, 1) := by decide +kernel
theorem dX10_printOf_4 : decode cX10_printOf 4 = .ok (.getfield 9, 3) := by decide +kernel
theorem dX10_printOf_7 : decode cX10_printOf 7 = .ok (.iconst 1, 1) := by decide +kernel
theorem dX10_printOf_8 : decode cX10_printOf 8 = .ok (.iaload, 1) := by decide +kernel
theorem dX10_printOf_9 : decode cX10_printOf 9 = .ok (.if_icmp .ge 90, 3) := by decide +kernel
theorem dX10_printOf_12 : decode cX10_printOf 12 = .ok (.iconst 0, 1) := by decide +kernel
theorem dX10_printOf_13 : decode cX10_printOf 13 = .ok (.istore 4, 2) := by decide +kernel
theorem dX10_printOf_15 : decode cX10_printOf 15 = .ok (.aload_n 0, 1) := by decide +kernel
theorem dX10_printOf_16 : decode cX10_printOf 16 = .ok (.iload_n 3, 1) := by decide +kernel
theorem dX10_printOf_17 : decode cX10_printOf 17 = .ok (.iconst 1, 1) := by decide +kernel
theorem dX10_printOf_18 : decode cX10_printOf 18 = .ok (.invokevirtual 56, 3) := by decide +kernel
theorem dX10_printOf_21 : decode cX10_printOf 21 = .ok (.iload_n 1, 1) := by decide +kernel
theorem dX10_printOf_22 : decode cX10_printOf 22 = .ok (.if_icmp .eq 6, 3) := by decide +kernel
theorem dX10_printOf_25 : decode cX10_printOf 25 = .ok (.goto 68, 3) := by decide +kernel
theorem dX10_printOf_28 : decode cX10_printOf 28 = .ok (.iconst 0, 1) := by decide +kernel
theorem dX10_printOf_29 : decode cX10_printOf 29 = .ok (.istore 5, 2) := by decide +kernel
theorem dX10_printOf_31 : decode cX10_printOf 31 = .ok (.iload 5, 2) := by decide +kernel
theorem dX10_printOf_33 : decode cX10_printOf 33 = .ok (.aload_n 0, 1) := by decide +kernel
theorem dX10_printOf_34 : decode cX10_printOf 34 = .ok (.getfield 9, 3) := by decide +kernel
theorem dX10_printOf_37 : decode cX10_printOf 37 = .ok (.iconst 1, 1) := by decide +kernel
theorem dX10_printOf_38 : decode cX10_printOf 38 = .ok (.iaload, 1) := by decide +kernel
theorem dX10_printOf_39 : decode cX10_printOf 39 = .ok (.if_icmp .ge 46, 3) := by decide +kernel
theorem dX10_printOf_42 : decode cX10_printOf 42 = .ok (.iload 4, 2) := by decide +kernel
theorem dX10_printOf_44 : decode cX10_printOf 44 = .ok (.aload_n 0, 1) := by decide +kernel
theorem dX10_printOf_45 : decode cX10_printOf 45 = .ok (.iload 5, 2) := by decide +kernel
theorem dX10_printOf_47 : decode cX10_printOf 47 = .ok (.iconst 1, 1) := by decide +kernel
theorem dX10_printOf_48 : decode cX10_printOf 48 = .ok (.invokevirtual 56, 3) := by decide +kernel
theorem dX10_printOf_51 : decode cX10_printOf 51 = .ok (.iload_n 1, 1) := by decide +kernel
theorem dX10_printOf_52 : decode cX10_printOf 52 = .ok (.if_icmp .ne 23, 3) := by decide +kernel
theorem dX10_printOf_55 : decode cX10_printOf 55 = .ok (.aload_n 0, 1) := by decide +kernel
theorem dX10_printOf_56 : decode cX10_printOf 56 = .ok (.iload 5, 2) := by decide +kernel
theorem dX10_printOf_58 : decode cX10_printOf 58 = .ok (.iconst 2, 1) := by decide +kernel
theorem dX10_printOf_59 : decode cX10_printOf 59 = .ok (.invokevirtual 56, 3) := by decide +kernel
theorem dX10_printOf_62 : decode cX10_printOf 62 = .ok (.aload_n 0, 1) := by decide +kernel
theorem dX10_printOf_63 : decode cX10_printOf 63 = .ok (.iload_n 3, 1) := by decide +kernel
theorem dX10_printOf_64 : decode cX10_printOf 64 = .ok (.iconst 2, 1) := by decide +kernel
theorem dX10_printOf_65 : decode cX10_printOf 65 = .ok (.invokevirtual 56, 3) := by decide +kernel
theorem dX10_printOf_68 : decode cX10_printOf 68 = .ok (.if_icmp .ge 7, 3) := by decide +kernel
theorem dX10_printOf_71 : decode cX10_printOf 71 = .ok (.iconst 1, 1) := by decide +kernel
theorem dX10_printOf_72 : decode cX10_printOf 72 = .ok (.goto 4, 3) := by decide +kernel
theorem dX10_printOf_75 : decode cX10_printOf 75 = .ok (.iconst 0, 1) := by decide +kernel
theorem dX10_printOf_76 : decode cX10_printOf 76 = .ok (.iadd, 1) := by decide +kernel
theorem dX10_printOf_77 : decode cX10_printOf 77 = .ok (.istore 4, 2) := by decide +kernel
theorem dX10_printOf_79 : decode cX10_printOf 79 = .ok (.iinc 5 1, 3) := by decide +kernel
theorem dX10_printOf_82 : decode cX10_printOf 82 = .ok (.goto (-51), 3) := by decide +kernel
theorem dX10_printOf_85 : decode cX10_printOf 85 = .ok (.iload 4, 2) := by decide +kernel
theorem dX10_printOf_87 : decode cX10_printOf 87 = .ok (.iload_n 2, 1) := by decide +kernel
theorem dX10_printOf_88 : decode cX10_printOf 88 = .ok (.if_icmp .ne 5, 3) := by decide +kernel
theorem dX10_printOf_91 : decode cX10_printOf 91 = .ok (.iload_n 3, 1) := by decide +kernel
theorem dX10_printOf_92 : decode cX10_printOf 92 = .ok (.ireturn, 1) := by decide +kernel
theorem dX10_printOf_93 : decode cX10_printOf 93 = .ok (.iinc 3 1, 3) := by decide +kernel
theorem dX10_printOf_96 : decode cX10_printOf 96 = .ok (.goto (-94), 3) := by decide +kernel
theorem dX10_printOf_99 : decode cX10_printOf 99 = .ok (.iconst (-1), 1) := by decide +kernel
theorem dX10_printOf_100 : decode cX10_printOf 100 = .ok (.ireturn, 1) := by decide +kernel
set_option maxRecDepth 20000 in
theorem ggX10_addsTrack_X10_in : GoodIn wsX10_addsTrack wsX10_in := goodIn_r _ [6] (by decide +kernel) (by decide +kernel)
set_option maxRecDepth 20000 in
theorem gX10_addsTrack_X10_in : GoodIn wsX10_addsTrack (va_wsS RX10 60 yX10_in wsX10_in) := goodIn_app (goodIn_of _ (by decide +kernel)) ggX10_addsTrack_X10_in
set_option maxRecDepth 20000 in
theorem ggX10_addsTrack_X10_rejects : GoodIn wsX10_addsTrack wsX10_rejects := goodIn_r _ [10, 11, 12, 13, 14, 15, 16, 17, 18, 19, 20, 21, 22, 23, 24, 25, 26, 27, 28, 29, 30, 31] (by decide +kernel) (by decide +kernel)
set_option maxRecDepth 20000 in
theorem gX10_addsTrack_X10_rejects : GoodIn wsX10_addsTrack (wsV RX10 89 RX10 yX10_rejects wsX10_rejects) := goodIn_app (goodIn_of _ (by decide +kernel)) ggX10_addsTrack_X10_rejects
theorem dX10_addsTrack_0 : decode cX10_addsTrack 0 = .ok (.iload_n 1, 1) := by decide +kernel
theorem dX10_addsTrack_1 : decode cX10_addsTrack 1 = .ok (.iconst 1, 1) := by decide +kernel
theorem dX10_addsTrack_2 : decode cX10_addsTrack 2 = .ok (.bipush 9, 2) := by decide +kernel
theorem dX10_addsTrack_4 : decode cX10_addsTrack 4 = .ok (.invokestatic 60, 3) := by decide +kernel
theorem dX10_addsTrack_7 : decode cX10_addsTrack 7 = .ok (.ifCond .ne 5, 3) := by decide +kernel
theorem dX10_addsTrack_10 : decode cX10_addsTrack 10 = .ok (.iconst 2, 1) := by decide +kernel
theorem dX10_addsTrack_11 : decode cX10_addsTrack 11 = .ok (.ireturn, 1) := by decide +kernel
theorem dX10_addsTrack_12 : decode cX10_addsTrack 12 = .ok (.aload_n 0, 1) := by decide +kernel
theorem dX10_addsTrack_13 : decode cX10_addsTrack 13 = .ok (.getfield 9, 3) := by decide +kernel
theorem dX10_addsTrack_16 : decode cX10_addsTrack 16 = .ok (.iconst 0, 1) := by decide +kernel
theorem dX10_addsTrack_17 : decode cX10_addsTrack 17 = .ok (.iaload, 1) := by decide +kernel
theorem dX10_addsTrack_18 : decode cX10_addsTrack 18 = .ok (.istore_n 2, 1) := by decide +kernel
theorem dX10_addsTrack_19 : decode cX10_addsTrack 19 = .ok (.aload_n 0, 1) := by decide +kernel
theorem dX10_addsTrack_20 : decode cX10_addsTrack 20 = .ok (.iload_n 2, 1) := by decide +kernel
theorem dX10_addsTrack_21 : decode cX10_addsTrack 21 = .ok (.bipush 6, 2) := by decide +kernel
theorem dX10_addsTrack_23 : decode cX10_addsTrack 23 = .ok (.if_icmp .ne 7, 3) := by decide +kernel
theorem dX10_addsTrack_26 : decode cX10_addsTrack 26 = .ok (.iconst 1, 1) := by decide +kernel
theorem dX10_addsTrack_27 : decode cX10_addsTrack 27 = .ok (.goto 4, 3) := by decide +kernel
theorem dX10_addsTrack_30 : decode cX10_addsTrack 30 = .ok (.iconst 0, 1) := by decide +kernel
theorem dX10_addsTrack_31 : decode cX10_addsTrack 31 = .ok (.iconst 1, 1) := by decide +kernel
theorem dX10_addsTrack_32 : decode cX10_addsTrack 32 = .ok (.bipush 6, 2) := by decide +kernel
theorem dX10_addsTrack_34 : decode cX10_addsTrack 34 = .ok (.invokevirtual 89, 3) := by decide +kernel
theorem dX10_addsTrack_37 : decode cX10_addsTrack 37 = .ok (.ifCond .eq 5, 3) := by decide +kernel
theorem dX10_addsTrack_40 : decode cX10_addsTrack 40 = .ok (.iconst 3, 1) := by decide +kernel
theorem dX10_addsTrack_41 : decode cX10_addsTrack 41 = .ok (.ireturn, 1) := by decide +kernel
theorem dX10_addsTrack_42 : decode cX10_addsTrack 42 = .ok (.aload_n 0, 1) := by decide +kernel
theorem dX10_addsTrack_43 : decode cX10_addsTrack 43 = .ok (.aload_n 0, 1) := by decide +kernel
theorem dX10_addsTrack_44 : decode cX10_addsTrack 44 = .ok (.getfield 9, 3) := by decide +kernel
theorem dX10_addsTrack_47 : decode cX10_addsTrack 47 = .ok (.iconst 2, 1) := by decide +kernel
theorem dX10_addsTrack_48 : decode cX10_addsTrack 48 = .ok (.iaload, 1) := by decide +kernel
theorem dX10_addsTrack_49 : decode cX10_addsTrack 49 = .ok (.putfield 37, 3) := by decide +kernel
theorem dX10_addsTrack_52 : decode cX10_addsTrack 52 = .ok (.aload_n 0, 1) := by decide +kernel
theorem dX10_addsTrack_53 : decode cX10_addsTrack 53 = .ok (.getfield 9, 3) := by decide +kernel
theorem dX10_addsTrack_56 : decode cX10_addsTrack 56 = .ok (.iconst 2, 1) := by decide +kernel
theorem dX10_addsTrack_57 : decode cX10_addsTrack 57 = .ok (.dup2, 1) := by decide +kernel
theorem dX10_addsTrack_58 : decode cX10_addsTrack 58 = .ok (.iaload, 1) := by decide +kernel
theorem dX10_addsTrack_59 : decode cX10_addsTrack 59 = .ok (.iconst 1, 1) := by decide +kernel
theorem dX10_addsTrack_60 : decode cX10_addsTrack 60 = .ok (.iadd, 1) := by decide +kernel
theorem dX10_addsTrack_61 : decode cX10_addsTrack 61 = .ok (.iastore, 1) := by decide +kernel
theorem dX10_addsTrack_62 : decode cX10_addsTrack 62 = .ok (.aload_n 0, 1) := by decide +kernel
theorem dX10_addsTrack_63 : decode cX10_addsTrack 63 = .ok (.getfield 9, 3) := by decide +kernel
theorem dX10_addsTrack_66 : decode cX10_addsTrack 66 = .ok (.iconst 0, 1) := by decide +kernel
theorem dX10_addsTrack_67 : decode cX10_addsTrack 67 = .ok (.dup2, 1) := by decide +kernel
theorem dX10_addsTrack_68 : decode cX10_addsTrack 68 = .ok (.iaload, 1) := by decide +kernel
theorem dX10_addsTrack_69 : decode cX10_addsTrack 69 = .ok (.iconst 1, 1) := by decide +kernel
theorem dX10_addsTrack_70 : decode cX10_addsTrack 70 = .ok (.iadd, 1) := by decide +kernel
theorem dX10_addsTrack_71 : decode cX10_addsTrack 71 = .ok (.iastore, 1) := by decide +kernel
theorem dX10_addsTrack_72 : decode cX10_addsTrack 72 = .ok (.aload_n 0, 1) := by decide +kernel
theorem dX10_addsTrack_73 : decode cX10_addsTrack 73 = .ok (.getfield 9, 3) := by decide +kernel
theorem dX10_addsTrack_76 : decode cX10_addsTrack 76 = .ok (.bipush 7, 2) := by decide +kernel
theorem dX10_addsTrack_78 : decode cX10_addsTrack 78 = .ok (.iconst 2, 1) := by decide +kernel
theorem dX10_addsTrack_79 : decode cX10_addsTrack 79 = .ok (.iload_n 2, 1) := by decide +kernel
theorem dX10_addsTrack_80 : decode cX10_addsTrack 80 = .ok (.imul, 1) := by decide +kernel
theorem dX10_addsTrack_81 : decode cX10_addsTrack 81 = .ok (.iadd, 1) := by decide +kernel
theorem dX10_addsTrack_82 : decode cX10_addsTrack 82 = .ok (.aload_n 0, 1) := by decide +kernel
theorem dX10_addsTrack_83 : decode cX10_addsTrack 83 = .ok (.getfield 37, 3) := by decide +kernel
theorem dX10_addsTrack_86 : decode cX10_addsTrack 86 = .ok (.iastore, 1) := by decide +kernel
theorem dX10_addsTrack_87 : decode cX10_addsTrack 87 = .ok (.aload_n 0, 1) := by decide +kernel
theorem dX10_addsTrack_88 : decode cX10_addsTrack 88 = .ok (.getfield 9, 3) := by decide +kernel
theorem dX10_addsTrack_91 : decode cX10_addsTrack 91 = .ok (.bipush 7, 2) := by decide +kernel
theorem dX10_addsTrack_93 : decode cX10_addsTrack 93 = .ok (.iconst 2, 1) := by decide +kernel
theorem dX10_addsTrack_94 : decode cX10_addsTrack 94 = .ok (.iload_n 2, 1) := by decide +kernel
theorem dX10_addsTrack_95 : decode cX10_addsTrack 95 = .ok (.imul, 1) := by decide +kernel
theorem dX10_addsTrack_96 : decode cX10_addsTrack 96 = .ok (.iadd, 1) := by decide +kernel
theorem dX10_addsTrack_97 : decode cX10_addsTrack 97 = .ok (.iconst 1, 1) := by decide +kernel
theorem dX10_addsTrack_98 : decode cX10_addsTrack 98 = .ok (.iadd, 1) := by decide +kernel
theorem dX10_addsTrack_99 : decode cX10_addsTrack 99 = .ok (.iload_n 1, 1) := by decide +kernel
theorem dX10_addsTrack_100 : decode cX10_addsTrack 100 = .ok (.iastore, 1) := by decide +kernel
theorem dX10_addsTrack_101 : decode cX10_addsTrack 101 = .ok (.iconst 0, 1) := by decide +kernel
theorem dX10_addsTrack_102 : decode cX10_addsTrack 102 = .ok (.ireturn, 1) := by decide +kernel
set_option maxRecDepth 20000 in
theorem ggX10_addTrack_X10_begins : GoodIn wsX10_addTrack wsX10_begins := goodIn_ca (goodIn_r _ [5, 6, 7, 8, 4, 9, 10, 32, 33, 34, 35, 36, 37, 38, 39, 40, 41, 42, 43, 44, 45, 46, 47, 48, 49] (by decide +kernel) (by decide +kernel)) (goodIn_sub (fun _ h => List.mem_cons_of_mem _ (List.mem_append_right _ h)) (by decide +kernel))
set_option maxRecDepth 20000 in
theorem gX10_addTrack_X10_begins : GoodIn wsX10_addTrack (wsV RX10 93 RX10 yX10_begins wsX10_begins) := goodIn_app (goodIn_of _ (by decide +kernel)) ggX10_addTrack_X10_begins
set_option maxRecDepth 20000 in
theorem ggX10_addTrack_X10_addsTrack : GoodIn wsX10_addTrack wsX10_addsTrack := goodIn_ca (goodIn_r _ [14, 10, 15, 16, 17, 4, 18, 19, 20, 21, 22, 23, 24, 25, 32, 33, 34, 35, 36, 37, 38, 39, 40, 41, 42, 43, 44, 45, 46, 47, 48, 49] (by decide +kernel) (by decide +kernel)) (goodIn_sub (fun _ h => List.mem_cons_of_mem _ (List.mem_append_right _ h)) (by decide +kernel))
set_option maxRecDepth 20000 in
theorem gX10_addTrack_X10_addsTrack : GoodIn wsX10_addTrack (wsV RX10 96 RX10 yX10_addsTrack wsX10_addsTrack) := goodIn_app (goodIn_of _ (by decide +kernel)) ggX10_addTrack_X10_addsTrack
set_option maxRecDepth 20000 in
theorem ggX10_addTrack_X10_ends : GoodIn wsX10_addTrack wsX10_ends := goodIn_ca (goodIn_r _ [29, 30, 31, 15, 6, 7, 8, 4, 9, 10, 32, 33, 34, 35, 36, 37, 38, 39, 40, 41, 42, 43, 44, 45, 46, 47, 48, 49] (by decide +kernel) (by decide +kernel)) (goodIn_sub (fun _ h => List.mem_cons_of_mem _ (List.mem_append_right _ h)) (by decide +kernel))
set_option maxRecDepth 20000 in
theorem gX10_addTrack_X10_ends : GoodIn wsX10_addTrack (wsV RX10 99 RX10 yX10_ends wsX10_ends) := goodIn_app (goodIn_of _ (by decide +kernel)) ggX10_addTrack_X10_ends
theorem dX10_addTrack_0 : decode cX10_addTrack 0 = .ok (.aload_n 0, 1) := by decide +kernel
theorem dX10_addTrack_1 : decode cX10_addTrack 1 = .ok (.invokevirtual 93, 3) := by decide +kernel
theorem dX10_addTrack_4 : decode cX10_addTrack 4 = .ok (.aload_n 0, 1) := by decide +kernel
theorem dX10_addTrack_5 : decode cX10_addTrack 5 = .ok (.aload_n 0, 1) := by decide +kernel
theorem dX10_addTrack_6 : decode cX10_addTrack 6 = .ok (.iload_n 1, 1) := by decide +kernel
theorem dX10_addTrack_7 : decode cX10_addTrack 7 = .ok (.invokevirtual 96, 3) := by decide +kernel
theorem dX10_addTrack_10 : decode cX10_addTrack 10 = .ok (.iconst 0, 1) := by decide +kernel
theorem dX10_addTrack_11 : decode cX10_addTrack 11 = .ok (.iconst 1, 1) := by decide +kernel
theorem dX10_addTrack_12 : decode cX10_addTrack 12 = .ok (.iconst 2, 1) := by decide +kernel
theorem dX10_addTrack_13 : decode cX10_addTrack 13 = .ok (.invokevirtual 99, 3) := by decide +kernel
theorem dX10_addTrack_16 : decode cX10_addTrack 16 = .ok (.ireturn, 1) := by decide +kernel
set_option maxRecDepth 20000 in
theorem ggX10_goes_X10_set : GoodIn wsX10_goes wsX10_set := goodIn_ca (goodIn_r _ [6, 1, 7, 8, 9, 10, 11, 12, 13, 14, 15, 16, 17, 18, 19, 20, 21, 22, 23, 24] (by decide +kernel) (by decide +kernel)) (goodIn_sub (fun _ h => List.mem_cons_of_mem _ (List.mem_append_right _ h)) (by decide +kernel))
set_option maxRecDepth 20000 in
theorem gX10_goes_X10_set : GoodIn wsX10_goes (wsV RX10 103 RX10 yX10_set wsX10_set) := goodIn_app (goodIn_of _ (by decide +kernel)) ggX10_goes_X10_set
theorem dX10_goes_0 : decode cX10_goes 0 = .ok (.aload_n 0, 1) := by decide +kernel
theorem dX10_goes_1 : decode cX10_goes 1 = .ok (.getfield 9, 3) := by decide +kernel
theorem dX10_goes_4 : decode cX10_goes 4 = .ok (.iconst 1, 1) := by decide +kernel
theorem dX10_goes_5 : decode cX10_goes 5 = .ok (.iaload, 1) := by decide +kernel
theorem dX10_goes_6 : decode cX10_goes 6 = .ok (.iconst 1, 1) := by decide +kernel
theorem dX10_goes_7 : decode cX10_goes 7 = .ok (.isub, 1) := by decide +kernel
theorem dX10_goes_8 : decode cX10_goes 8 = .ok (.istore_n 2, 1) := by decide +kernel
theorem dX10_goes_9 : decode cX10_goes 9 = .ok (.bipush 9, 2) := by decide +kernel
theorem dX10_goes_11 : decode cX10_goes 11 = .ok (.iload_n 1, 1) := by decide +kernel
theorem dX10_goes_12 : decode cX10_goes 12 = .ok (.imul, 1) := by decide +kernel
theorem dX10_goes_13 : decode cX10_goes 13 = .ok (.istore_n 3, 1) := by decide +kernel
theorem dX10_goes_14 : decode cX10_goes 14 = .ok (.iload_n 3, 1) := by decide +kernel
theorem dX10_goes_15 : decode cX10_goes 15 = .ok (.bipush 9, 2) := by decide +kernel
theorem dX10_goes_17 : decode cX10_goes 17 = .ok (.iload_n 2, 1) := by decide +kernel
theorem dX10_goes_18 : decode cX10_goes 18 = .ok (.imul, 1) := by decide +kernel
theorem dX10_goes_19 : decode cX10_goes 19 = .ok (.if_icmp .ge 30, 3) := by decide +kernel
theorem dX10_goes_22 : decode cX10_goes 22 = .ok (.aload_n 0, 1) := by decide +kernel
theorem dX10_goes_23 : decode cX10_goes 23 = .ok (.getfield 9, 3) := by decide +kernel
theorem dX10_goes_26 : decode cX10_goes 26 = .ok (.bipush 19, 2) := by decide +kernel
theorem dX10_goes_28 : decode cX10_goes 28 = .ok (.iload_n 3, 1) := by decide +kernel
theorem dX10_goes_29 : decode cX10_goes 29 = .ok (.iadd, 1) := by decide +kernel
theorem dX10_goes_30 : decode cX10_goes 30 = .ok (.aload_n 0, 1) := by decide +kernel
theorem dX10_goes_31 : decode cX10_goes 31 = .ok (.getfield 9, 3) := by decide +kernel
theorem dX10_goes_34 : decode cX10_goes 34 = .ok (.bipush 19, 2) := by decide +kernel
theorem dX10_goes_36 : decode cX10_goes 36 = .ok (.iload_n 3, 1) := by decide +kernel
theorem dX10_goes_37 : decode cX10_goes 37 = .ok (.iadd, 1) := by decide +kernel
theorem dX10_goes_38 : decode cX10_goes 38 = .ok (.bipush 9, 2) := by decide +kernel
theorem dX10_goes_40 : decode cX10_goes 40 = .ok (.iadd, 1) := by decide +kernel
theorem dX10_goes_41 : decode cX10_goes 41 = .ok (.iaload, 1) := by decide +kernel
theorem dX10_goes_42 : decode cX10_goes 42 = .ok (.iastore, 1) := by decide +kernel
theorem dX10_goes_43 : decode cX10_goes 43 = .ok (.iinc 3 1, 3) := by decide +kernel
theorem dX10_goes_46 : decode cX10_goes 46 = .ok (.goto (-32), 3) := by decide +kernel
theorem dX10_goes_49 : decode cX10_goes 49 = .ok (.iconst 0, 1) := by decide +kernel
theorem dX10_goes_50 : decode cX10_goes 50 = .ok (.istore_n 3, 1) := by decide +kernel
theorem dX10_goes_51 : decode cX10_goes 51 = .ok (.iload_n 3, 1) := by decide +kernel
theorem dX10_goes_52 : decode cX10_goes 52 = .ok (.bipush 9, 2) := by decide +kernel
theorem dX10_goes_54 : decode cX10_goes 54 = .ok (.if_icmp .ge 16, 3) := by decide +kernel
theorem dX10_goes_57 : decode cX10_goes 57 = .ok (.aload_n 0, 1) := by decide +kernel
theorem dX10_goes_58 : decode cX10_goes 58 = .ok (.iload_n 2, 1) := by decide +kernel
theorem dX10_goes_59 : decode cX10_goes 59 = .ok (.iload_n 3, 1) := by decide +kernel
theorem dX10_goes_60 : decode cX10_goes 60 = .ok (.iconst 0, 1) := by decide +kernel
theorem dX10_goes_61 : decode cX10_goes 61 = .ok (.invokevirtual 103, 3) := by decide +kernel
theorem dX10_goes_64 : decode cX10_goes 64 = .ok (.iinc 3 1, 3) := by decide +kernel
theorem dX10_goes_67 : decode cX10_goes 67 = .ok (.goto (-16), 3) := by decide +kernel
theorem dX10_goes_70 : decode cX10_goes 70 = .ok (.aload_n 0, 1) := by decide +kernel
theorem dX10_goes_71 : decode cX10_goes 71 = .ok (.getfield 9, 3) := by decide +kernel
theorem dX10_goes_74 : decode cX10_goes 74 = .ok (.iconst 1, 1) := by decide +kernel
theorem dX10_goes_75 : decode cX10_goes 75 = .ok (.iload_n 2, 1) := by decide +kernel
theorem dX10_goes_76 : decode cX10_goes 76 = .ok (.iastore, 1) := by decide +kernel
theorem dX10_goes_77 : decode cX10_goes 77 = .ok (.return_, 1) := by decide +kernel
set_option maxRecDepth 20000 in
theorem ggX10_removesTrack_X10_findTrack : GoodIn wsX10_removesTrack wsX10_findTrack := goodIn_ca (goodIn_r _ [7, 2, 24, 25, 26, 27, 28, 29, 30, 31, 32, 33, 34, 35, 36, 37, 38, 39, 40, 41] (by decide +kernel) (by decide +kernel)) (goodIn_sub (fun _ h => List.mem_cons_of_mem _ (List.mem_append_right _ h)) (by decide +kernel))
set_option maxRecDepth 20000 in
theorem gX10_removesTrack_X10_findTrack : GoodIn wsX10_removesTrack (wsV RX10 79 RX10 yX10_findTrack wsX10_findTrack) := goodIn_app (goodIn_of _ (by decide +kernel)) ggX10_removesTrack_X10_findTrack
set_option maxRecDepth 20000 in
theorem ggX10_removesTrack_X10_countOf : GoodIn wsX10_removesTrack wsX10_countOf := goodIn_ca (goodIn_r _ [11, 2, 12, 13, 14, 6, 15, 24, 25, 26, 27, 28, 29, 30, 31, 32, 33, 34, 35, 36, 37, 38, 39, 40, 41] (by decide +kernel) (by decide +kernel)) (goodIn_sub (fun _ h => List.mem_cons_of_mem _ (List.mem_append_right _ h)) (by decide +kernel))
set_option maxRecDepth 20000 in
theorem gX10_removesTrack_X10_countOf : GoodIn wsX10_removesTrack (wsV RX10 107 RX10 yX10_countOf wsX10_countOf) := goodIn_app (goodIn_of _ (by decide +kernel)) ggX10_removesTrack_X10_countOf
set_option maxRecDepth 20000 in
theorem ggX10_removesTrack_X10_p : GoodIn wsX10_removesTrack wsX10_p := goodIn_ca (goodIn_r _ [15, 2, 24, 25, 26, 27, 28, 29, 30, 31, 32, 33, 34, 35, 36, 37, 38, 39, 40, 41] (by decide +kernel) (by decide +kernel)) (goodIn_sub (fun _ h => List.mem_cons_of_mem _ (List.mem_append_right _ h)) (by decide +kernel))
set_option maxRecDepth 20000 in
theorem gX10_removesTrack_X10_p : GoodIn wsX10_removesTrack (wsV RX10 56 RX10 yX10_p wsX10_p) := goodIn_app (goodIn_of _ (by decide +kernel)) ggX10_removesTrack_X10_p
set_option maxRecDepth 20000 in
theorem ggX10_removesTrack_X10_goes : GoodIn wsX10_removesTrack wsX10_goes := goodIn_ca (goodIn_r _ [19, 2, 20, 21, 22, 6, 23, 24, 25, 26, 27, 28, 29, 30, 31, 32, 33, 34, 35, 36, 37, 38, 39, 40, 41] (by decide +kernel) (by decide +kernel)) (goodIn_sub (fun _ h => List.mem_cons_of_mem _ (List.mem_append_right _ h)) (by decide +kernel))
set_option maxRecDepth 20000 in
theorem gX10_removesTrack_X10_goes : GoodIn wsX10_removesTrack (wsV RX10 110 RX10 yX10_goes wsX10_goes) := goodIn_app (goodIn_of _ (by decide +kernel)) ggX10_removesTrack_X10_goes
theorem dX10_removesTrack_0 : decode cX10_removesTrack 0 = .ok (.aload_n 0, 1) := by decide +kernel
theorem dX10_removesTrack_1 : decode cX10_removesTrack 1 = .ok (.iload_n 1, 1) := by decide +kernel
theorem dX10_removesTrack_2 : decode cX10_removesTrack 2 = .ok (.invokevirtual 79, 3) := by decide +kernel
theorem dX10_removesTrack_5 : decode cX10_removesTrack 5 = .ok (.istore_n 2, 1) := by decide +kernel
theorem dX10_removesTrack_6 : decode cX10_removesTrack 6 = .ok (.iload_n 2, 1) := by decide +kernel
theorem dX10_removesTrack_7 : decode cX10_removesTrack 7 = .ok (.ifCond .ge 5, 3) := by decide +kernel
theorem dX10_removesTrack_10 : decode cX10_removesTrack 10 = .ok (.iconst 1, 1) := by decide +kernel
theorem dX10_removesTrack_11 : decode cX10_removesTrack 11 = .ok (.ireturn, 1) := by decide +kernel
theorem dX10_removesTrack_12 : decode cX10_removesTrack 12 = .ok (.aload_n 0, 1) := by decide +kernel
theorem dX10_removesTrack_13 : decode cX10_removesTrack 13 = .ok (.aload_n 0, 1) := by decide +kernel
theorem dX10_removesTrack_14 : decode cX10_removesTrack 14 = .ok (.iload_n 1, 1) := by decide +kernel
theorem dX10_removesTrack_15 : decode cX10_removesTrack 15 = .ok (.invokevirtual 107, 3) := by decide +kernel
theorem dX10_removesTrack_18 : decode cX10_removesTrack 18 = .ok (.putfield 37, 3) := by decide +kernel
theorem dX10_removesTrack_21 : decode cX10_removesTrack 21 = .ok (.aload_n 0, 1) := by decide +kernel
theorem dX10_removesTrack_22 : decode cX10_removesTrack 22 = .ok (.getfield 9, 3) := by decide +kernel
theorem dX10_removesTrack_25 : decode cX10_removesTrack 25 = .ok (.iconst 1, 1) := by decide +kernel
theorem dX10_removesTrack_26 : decode cX10_removesTrack 26 = .ok (.iaload, 1) := by decide +kernel
theorem dX10_removesTrack_27 : decode cX10_removesTrack 27 = .ok (.iconst 1, 1) := by decide +kernel
theorem dX10_removesTrack_28 : decode cX10_removesTrack 28 = .ok (.isub, 1) := by decide +kernel
theorem dX10_removesTrack_29 : decode cX10_removesTrack 29 = .ok (.istore_n 3, 1) := by decide +kernel
theorem dX10_removesTrack_30 : decode cX10_removesTrack 30 = .ok (.iload_n 3, 1) := by decide +kernel
theorem dX10_removesTrack_31 : decode cX10_removesTrack 31 = .ok (.ifCond .lt 24, 3) := by decide +kernel
theorem dX10_removesTrack_34 : decode cX10_removesTrack 34 = .ok (.aload_n 0, 1) := by decide +kernel
theorem dX10_removesTrack_35 : decode cX10_removesTrack 35 = .ok (.iload_n 3, 1) := by decide +kernel
theorem dX10_removesTrack_36 : decode cX10_removesTrack 36 = .ok (.iconst 1, 1) := by decide +kernel
theorem dX10_removesTrack_37 : decode cX10_removesTrack 37 = .ok (.invokevirtual 56, 3) := by decide +kernel
theorem dX10_removesTrack_40 : decode cX10_removesTrack 40 = .ok (.iload_n 1, 1) := by decide +kernel
theorem dX10_removesTrack_41 : decode cX10_removesTrack 41 = .ok (.if_icmp .ne 8, 3) := by decide +kernel
theorem dX10_removesTrack_44 : decode cX10_removesTrack 44 = .ok (.aload_n 0, 1) := by decide +kernel
theorem dX10_removesTrack_45 : decode cX10_removesTrack 45 = .ok (.iload_n 3, 1) := by decide +kernel
theorem dX10_removesTrack_46 : decode cX10_removesTrack 46 = .ok (.invokevirtual 110, 3) := by decide +kernel
theorem dX10_removesTrack_49 : decode cX10_removesTrack 49 = .ok (.iinc 3 (-1), 3) := by decide +kernel
theorem dX10_removesTrack_52 : decode cX10_removesTrack 52 = .ok (.goto (-22), 3) := by decide +kernel
theorem dX10_removesTrack_55 : decode cX10_removesTrack 55 = .ok (.aload_n 0, 1) := by decide +kernel
theorem dX10_removesTrack_56 : decode cX10_removesTrack 56 = .ok (.getfield 9, 3) := by decide +kernel
theorem dX10_removesTrack_59 : decode cX10_removesTrack 59 = .ok (.iconst 0, 1) := by decide +kernel
theorem dX10_removesTrack_60 : decode cX10_removesTrack 60 = .ok (.iaload, 1) := by decide +kernel
theorem dX10_removesTrack_61 : decode cX10_removesTrack 61 = .ok (.iconst 1, 1) := by decide +kernel
theorem dX10_removesTrack_62 : decode cX10_removesTrack 62 = .ok (.isub, 1) := by decide +kernel
theorem dX10_removesTrack_63 : decode cX10_removesTrack 63 = .ok (.istore_n 3, 1) := by decide +kernel
theorem dX10_removesTrack_64 : decode cX10_removesTrack 64 = .ok (.iconst 2, 1) := by decide +kernel
theorem dX10_removesTrack_65 : decode cX10_removesTrack 65 = .ok (.iload_n 2, 1) := by decide +kernel
theorem dX10_removesTrack_66 : decode cX10_removesTrack 66 = .ok (.imul, 1) := by decide +kernel
theorem dX10_removesTrack_67 : decode cX10_removesTrack 67 = .ok (.istore 4, 2) := by decide +kernel
theorem dX10_removesTrack_69 : decode cX10_removesTrack 69 = .ok (.iload 4, 2) := by decide +kernel
theorem dX10_removesTrack_71 : decode cX10_removesTrack 71 = .ok (.iconst 2, 1) := by decide +kernel
theorem dX10_removesTrack_72 : decode cX10_removesTrack 72 = .ok (.iload_n 3, 1) := by decide +kernel
theorem dX10_removesTrack_73 : decode cX10_removesTrack 73 = .ok (.imul, 1) := by decide +kernel
theorem dX10_removesTrack_74 : decode cX10_removesTrack 74 = .ok (.if_icmp .ge 31, 3) := by decide +kernel
theorem dX10_removesTrack_77 : decode cX10_removesTrack 77 = .ok (.aload_n 0, 1) := by decide +kernel
theorem dX10_removesTrack_78 : decode cX10_removesTrack 78 = .ok (.getfield 9, 3) := by decide +kernel
theorem dX10_removesTrack_81 : decode cX10_removesTrack 81 = .ok (.bipush 7, 2) := by decide +kernel
theorem dX10_removesTrack_83 : decode cX10_removesTrack 83 = .ok (.iload 4, 2) := by decide +kernel
theorem dX10_removesTrack_85 : decode cX10_removesTrack 85 = .ok (.iadd, 1) := by decide +kernel
theorem dX10_removesTrack_86 : decode cX10_removesTrack 86 = .ok (.aload_n 0, 1) := by decide +kernel
theorem dX10_removesTrack_87 : decode cX10_removesTrack 87 = .ok (.getfield 9, 3) := by decide +kernel
theorem dX10_removesTrack_90 : decode cX10_removesTrack 90 = .ok (.bipush 7, 2) := by decide +kernel
theorem dX10_removesTrack_92 : decode cX10_removesTrack 92 = .ok (.iload 4, 2) := by decide +kernel
theorem dX10_removesTrack_94 : decode cX10_removesTrack 94 = .ok (.iadd, 1) := by decide +kernel
theorem dX10_removesTrack_95 : decode cX10_removesTrack 95 = .ok (.iconst 2, 1) := by decide +kernel
theorem dX10_removesTrack_96 : decode cX10_removesTrack 96 = .ok (.iadd, 1) := by decide +kernel
theorem dX10_removesTrack_97 : decode cX10_removesTrack 97 = .ok (.iaload, 1) := by decide +kernel
theorem dX10_removesTrack_98 : decode cX10_removesTrack 98 = .ok (.iastore, 1) := by decide +kernel
theorem dX10_removesTrack_99 : decode cX10_removesTrack 99 = .ok (.iinc 4 1, 3) := by decide +kernel
theorem dX10_removesTrack_102 : decode cX10_removesTrack 102 = .ok (.goto (-33), 3) := by decide +kernel
theorem dX10_removesTrack_105 : decode cX10_removesTrack 105 = .ok (.aload_n 0, 1) := by decide +kernel
theorem dX10_removesTrack_106 : decode cX10_removesTrack 106 = .ok (.getfield 9, 3) := by decide +kernel
theorem dX10_removesTrack_109 : decode cX10_removesTrack 109 = .ok (.bipush 7, 2) := by decide +kernel
theorem dX10_removesTrack_111 : decode cX10_removesTrack 111 = .ok (.iconst 2, 1) := by decide +kernel
theorem dX10_removesTrack_112 : decode cX10_removesTrack 112 = .ok (.iload_n 3, 1) := by decide +kernel
theorem dX10_removesTrack_113 : decode cX10_removesTrack 113 = .ok (.imul, 1) := by decide +kernel
theorem dX10_removesTrack_114 : decode cX10_removesTrack 114 = .ok (.iadd, 1) := by decide +kernel
theorem dX10_removesTrack_115 : decode cX10_removesTrack 115 = .ok (.iconst 0, 1) := by decide +kernel
theorem dX10_removesTrack_116 : decode cX10_removesTrack 116 = .ok (.iastore, 1) := by decide +kernel
theorem dX10_removesTrack_117 : decode cX10_removesTrack 117 = .ok (.aload_n 0, 1) := by decide +kernel
theorem dX10_removesTrack_118 : decode cX10_removesTrack 118 = .ok (.getfield 9, 3) := by decide +kernel
theorem dX10_removesTrack_121 : decode cX10_removesTrack 121 = .ok (.bipush 7, 2) := by decide +kernel
theorem dX10_removesTrack_123 : decode cX10_removesTrack 123 = .ok (.iconst 2, 1) := by decide +kernel
theorem dX10_removesTrack_124 : decode cX10_removesTrack 124 = .ok (.iload_n 3, 1) := by decide +kernel
theorem dX10_removesTrack_125 : decode cX10_removesTrack 125 = .ok (.imul, 1) := by decide +kernel
theorem dX10_removesTrack_126 : decode cX10_removesTrack 126 = .ok (.iadd, 1) := by decide +kernel
theorem dX10_removesTrack_127 : decode cX10_removesTrack 127 = .ok (.iconst 1, 1) := by decide +kernel
theorem dX10_removesTrack_128 : decode cX10_removesTrack 128 = .ok (.iadd, 1) := by decide +kernel
theorem dX10_removesTrack_129 : decode cX10_removesTrack 129 = .ok (.iconst 0, 1) := by decide +kernel
theorem dX10_removesTrack_130 : decode cX10_removesTrack 130 = .ok (.iastore, 1) := by decide +kernel
theorem dX10_removesTrack_131 : decode cX10_removesTrack 131 = .ok (.aload_n 0, 1) := by decide +kernel
theorem dX10_removesTrack_132 : decode cX10_removesTrack 132 = .ok (.getfield 9, 3) := by decide +kernel
theorem dX10_removesTrack_135 : decode cX10_removesTrack 135 = .ok (.iconst 0, 1) := by decide +kernel
theorem dX10_removesTrack_136 : decode cX10_removesTrack 136 = .ok (.iload_n 3, 1) := by decide +kernel
theorem dX10_removesTrack_137 : decode cX10_removesTrack 137 = .ok (.iastore, 1) := by decide +kernel
theorem dX10_removesTrack_138 : decode cX10_removesTrack 138 = .ok (.iconst 0, 1) := by decide +kernel
theorem dX10_removesTrack_139 : decode cX10_removesTrack 139 = .ok (.ireturn, 1) := by decide +kernel
set_option maxRecDepth 20000 in
theorem ggX10_removeTrack_X10_begins : GoodIn wsX10_removeTrack wsX10_begins := goodIn_ca (goodIn_r _ [5, 6, 7, 8, 4, 9, 10, 42, 43, 44, 45, 46, 47, 48, 49, 50, 51, 52, 53, 54, 55, 56, 57, 58, 59] (by decide +kernel) (by decide +kernel)) (goodIn_sub (fun _ h => List.mem_cons_of_mem _ (List.mem_append_right _ h)) (by decide +kernel))
set_option maxRecDepth 20000 in
theorem gX10_removeTrack_X10_begins : GoodIn wsX10_removeTrack (wsV RX10 93 RX10 yX10_begins wsX10_begins) := goodIn_app (goodIn_of _ (by decide +kernel)) ggX10_removeTrack_X10_begins
set_option maxRecDepth 20000 in
theorem ggX10_removeTrack_X10_removesTrack : GoodIn wsX10_removeTrack wsX10_removesTrack := goodIn_ca (goodIn_r _ [14, 15, 10, 16, 17, 18, 4, 19, 20, 21, 22, 23, 24, 25, 26, 27, 28, 29, 30, 31, 32, 33, 34, 35, 42, 43, 44, 45, 46, 47, 48, 49, 50, 51, 52, 53, 54, 55, 56, 57, 58, 59] (by decide +kernel) (by decide +kernel)) (goodIn_sub (fun _ h => List.mem_cons_of_mem _ (List.mem_append_right _ h)) (by decide +kernel))
set_option maxRecDepth 20000 in
theorem gX10_removeTrack_X10_removesTrack : GoodIn wsX10_removeTrack (wsV RX10 114 RX10 yX10_removesTrack wsX10_removesTrack) := goodIn_app (goodIn_of _ (by decide +kernel)) ggX10_removeTrack_X10_removesTrack
set_option maxRecDepth 20000 in
theorem ggX10_removeTrack_X10_ends : GoodIn wsX10_removeTrack wsX10_ends := goodIn_ca (goodIn_r _ [39, 40, 41, 15, 6, 7, 8, 4, 9, 10, 42, 43, 44, 45, 46, 47, 48, 49, 50, 51, 52, 53, 54, 55, 56, 57, 58, 59] (by decide +kernel) (by decide +kernel)) (goodIn_sub (fun _ h => List.mem_cons_of_mem _ (List.mem_append_right _ h)) (by decide +kernel))
set_option maxRecDepth 20000 in
theorem gX10_removeTrack_X10_ends : GoodIn wsX10_removeTrack (wsV RX10 99 RX10 yX10_ends wsX10_ends) := goodIn_app (goodIn_of _ (by decide +kernel)) ggX10_removeTrack_X10_ends
theorem dX10_removeTrack_0 : decode cX10_removeTrack 0 = .ok (.aload_n 0, 1) := by decide +kernel
theorem dX10_removeTrack_1 : decode cX10_removeTrack 1 = .ok (.invokevirtual 93, 3) := by decide +kernel
theorem dX10_removeTrack_4 : decode cX10_removeTrack 4 = .ok (.aload_n 0, 1) := by decide +kernel
theorem dX10_removeTrack_5 : decode cX10_removeTrack 5 = .ok (.aload_n 0, 1) := by decide +kernel
theorem dX10_removeTrack_6 : decode cX10_removeTrack 6 = .ok (.iload_n 1, 1) := by decide +kernel
theorem dX10_removeTrack_7 : decode cX10_removeTrack 7 = .ok (.invokevirtual 114, 3) := by decide +kernel
theorem dX10_removeTrack_10 : decode cX10_removeTrack 10 = .ok (.iconst 1, 1) := by decide +kernel
theorem dX10_removeTrack_11 : decode cX10_removeTrack 11 = .ok (.iconst 0, 1) := by decide +kernel
theorem dX10_removeTrack_12 : decode cX10_removeTrack 12 = .ok (.iconst 0, 1) := by decide +kernel
theorem dX10_removeTrack_13 : decode cX10_removeTrack 13 = .ok (.invokevirtual 99, 3) := by decide +kernel
theorem dX10_removeTrack_16 : decode cX10_removeTrack 16 = .ok (.ireturn, 1) := by decide +kernel
set_option maxRecDepth 20000 in
theorem ggX10_atTime_X10_p : GoodIn wsX10_atTime wsX10_p := goodIn_ca (goodIn_r _ [6, 1, 7, 8, 9, 10, 11, 12, 13, 14, 15, 16, 17, 18, 19, 20, 21, 22, 23, 24] (by decide +kernel) (by decide +kernel)) (goodIn_sub (fun _ h => List.mem_cons_of_mem _ (List.mem_append_right _ h)) (by decide +kernel))
set_option maxRecDepth 20000 in
theorem gX10_atTime_X10_p : GoodIn wsX10_atTime (wsV RX10 56 RX10 yX10_p wsX10_p) := goodIn_app (goodIn_of _ (by decide +kernel)) ggX10_atTime_X10_p
theorem dX10_atTime_0 : decode cX10_atTime 0 = .ok (.iconst 0, 1) := by decide +kernel
theorem dX10_atTime_1 : decode cX10_atTime 1 = .ok (.istore_n 3, 1) := by decide +kernel
theorem dX10_atTime_2 : decode cX10_atTime 2 = .ok (.iload_n 3, 1) := by decide +kernel
theorem dX10_atTime_3 : decode cX10_atTime 3 = .ok (.aload_n 0, 1) := by decide +kernel
theorem dX10_atTime_4 : decode cX10_atTime 4 = .ok (.getfield 9, 3) := by decide +kernel
theorem dX10_atTime_7 : decode cX10_atTime 7 = .ok (.iconst 1, 1) := by decide +kernel
theorem dX10_atTime_8 : decode cX10_atTime 8 = .ok (.iaload, 1) := by decide +kernel
theorem dX10_atTime_9 : decode cX10_atTime 9 = .ok (.if_icmp .ge 31, 3) := by decide +kernel
theorem dX10_atTime_12 : decode cX10_atTime 12 = .ok (.aload_n 0, 1) := by decide +kernel
theorem dX10_atTime_13 : decode cX10_atTime 13 = .ok (.iload_n 3, 1) := by decide +kernel
theorem dX10_atTime_14 : decode cX10_atTime 14 = .ok (.iconst 1, 1) := by decide +kernel
theorem dX10_atTime_15 : decode cX10_atTime 15 = .ok (.invokevirtual 56, 3) := by decide +kernel
theorem dX10_atTime_18 : decode cX10_atTime 18 = .ok (.iload_n 1, 1) := by decide +kernel
theorem dX10_atTime_19 : decode cX10_atTime 19 = .ok (.if_icmp .ne 15, 3) := by decide +kernel
theorem dX10_atTime_22 : decode cX10_atTime 22 = .ok (.aload_n 0, 1) := by decide +kernel
theorem dX10_atTime_23 : decode cX10_atTime 23 = .ok (.iload_n 3, 1) := by decide +kernel
theorem dX10_atTime_24 : decode cX10_atTime 24 = .ok (.iconst 2, 1) := by decide +kernel
theorem dX10_atTime_25 : decode cX10_atTime 25 = .ok (.invokevirtual 56, 3) := by decide +kernel
theorem dX10_atTime_28 : decode cX10_atTime 28 = .ok (.iload_n 2, 1) := by decide +kernel
theorem dX10_atTime_29 : decode cX10_atTime 29 = .ok (.if_icmp .ne 5, 3) := by decide +kernel
theorem dX10_atTime_32 : decode cX10_atTime 32 = .ok (.iload_n 3, 1) := by decide +kernel
theorem dX10_atTime_33 : decode cX10_atTime 33 = .ok (.ireturn, 1) := by decide +kernel
theorem dX10_atTime_34 : decode cX10_atTime 34 = .ok (.iinc 3 1, 3) := by decide +kernel
theorem dX10_atTime_37 : decode cX10_atTime 37 = .ok (.goto (-35), 3) := by decide +kernel
theorem dX10_atTime_40 : decode cX10_atTime 40 = .ok (.iconst (-1), 1) := by decide +kernel
theorem dX10_atTime_41 : decode cX10_atTime 41 = .ok (.ireturn, 1) := by decide +kernel
set_option maxRecDepth 20000 in
theorem ggX10_isLaterThere_X10_p : GoodIn wsX10_isLaterThere wsX10_p := goodIn_ca (goodIn_r _ [6, 1, 7, 8, 9, 10, 11, 12, 13, 14, 15, 16, 17, 18, 19, 20, 21, 22, 23, 24] (by decide +kernel) (by decide +kernel)) (goodIn_sub (fun _ h => List.mem_cons_of_mem _ (List.mem_append_right _ h)) (by decide +kernel))
set_option maxRecDepth 20000 in
theorem gX10_isLaterThere_X10_p : GoodIn wsX10_isLaterThere (wsV RX10 56 RX10 yX10_p wsX10_p) := goodIn_app (goodIn_of _ (by decide +kernel)) ggX10_isLaterThere_X10_p
theorem dX10_isLaterThere_0 : decode cX10_isLaterThere 0 = .ok (.iconst 0, 1) := by decide +kernel
theorem dX10_isLaterThere_1 : decode cX10_isLaterThere 1 = .ok (.istore_n 3, 1) := by decide +kernel
theorem dX10_isLaterThere_2 : decode cX10_isLaterThere 2 = .ok (.iconst 0, 1) := by decide +kernel
theorem dX10_isLaterThere_3 : decode cX10_isLaterThere 3 = .ok (.istore 4, 2) := by decide +kernel
theorem dX10_isLaterThere_5 : decode cX10_isLaterThere 5 = .ok (.iload 4, 2) := by decide +kernel
theorem dX10_isLaterThere_7 : decode cX10_isLaterThere 7 = .ok (.aload_n 0, 1) := by decide +kernel
theorem dX10_isLaterThere_8 : decode cX10_isLaterThere 8 = .ok (.getfield 9, 3) := by decide +kernel
theorem dX10_isLaterThere_11 : decode cX10_isLaterThere 11 = .ok (.iconst 1, 1) := by decide +kernel
theorem dX10_isLaterThere_12 : decode cX10_isLaterThere 12 = .ok (.iaload, 1) := by decide +kernel
theorem dX10_isLaterThere_13 : decode cX10_isLaterThere 13 = .ok (.if_icmp .ge 39, 3) := by decide +kernel
theorem dX10_isLaterThere_16 : decode cX10_isLaterThere 16 = .ok (.iload_n 3, 1) := by decide +kernel
theorem dX10_isLaterThere_17 : decode cX10_isLaterThere 17 = .ok (.aload_n 0, 1) := by decide +kernel
theorem dX10_isLaterThere_18 : decode cX10_isLaterThere 18 = .ok (.iload 4, 2) := by decide +kernel
theorem dX10_isLaterThere_20 : decode cX10_isLaterThere 20 = .ok (.iconst 1, 1) := by decide +kernel
theorem dX10_isLaterThere_21 : decode cX10_isLaterThere 21 = .ok (.invokevirtual 56, 3) := by decide +kernel
theorem dX10_isLaterThere_24 : decode cX10_isLaterThere 24 = .ok (.iload_n 1, 1) := by decide +kernel
theorem dX10_isLaterThere_25 : decode cX10_isLaterThere 25 = .ok (.if_icmp .ne 18, 3) := by decide +kernel
theorem dX10_isLaterThere_28 : decode cX10_isLaterThere 28 = .ok (.aload_n 0, 1) := by decide +kernel
theorem dX10_isLaterThere_29 : decode cX10_isLaterThere 29 = .ok (.iload 4, 2) := by decide +kernel
theorem dX10_isLaterThere_31 : decode cX10_isLaterThere 31 = .ok (.iconst 2, 1) := by decide +kernel
theorem dX10_isLaterThere_32 : decode cX10_isLaterThere 32 = .ok (.invokevirtual 56, 3) := by decide +kernel
theorem dX10_isLaterThere_35 : decode cX10_isLaterThere 35 = .ok (.iload_n 2, 1) := by decide +kernel
theorem dX10_isLaterThere_36 : decode cX10_isLaterThere 36 = .ok (.if_icmp .le 7, 3) := by decide +kernel
theorem dX10_isLaterThere_39 : decode cX10_isLaterThere 39 = .ok (.iconst 1, 1) := by decide +kernel
theorem dX10_isLaterThere_40 : decode cX10_isLaterThere 40 = .ok (.goto 4, 3) := by decide +kernel
theorem dX10_isLaterThere_43 : decode cX10_isLaterThere 43 = .ok (.iconst 0, 1) := by decide +kernel
theorem dX10_isLaterThere_44 : decode cX10_isLaterThere 44 = .ok (.iadd, 1) := by decide +kernel
theorem dX10_isLaterThere_45 : decode cX10_isLaterThere 45 = .ok (.istore_n 3, 1) := by decide +kernel
theorem dX10_isLaterThere_46 : decode cX10_isLaterThere 46 = .ok (.iinc 4 1, 3) := by decide +kernel
theorem dX10_isLaterThere_49 : decode cX10_isLaterThere 49 = .ok (.goto (-44), 3) := by decide +kernel
theorem dX10_isLaterThere_52 : decode cX10_isLaterThere 52 = .ok (.iload_n 3, 1) := by decide +kernel
theorem dX10_isLaterThere_53 : decode cX10_isLaterThere 53 = .ok (.ifCond .le 7, 3) := by decide +kernel
theorem dX10_isLaterThere_56 : decode cX10_isLaterThere 56 = .ok (.iconst 1, 1) := by decide +kernel
theorem dX10_isLaterThere_57 : decode cX10_isLaterThere 57 = .ok (.goto 4, 3) := by decide +kernel
theorem dX10_isLaterThere_60 : decode cX10_isLaterThere 60 = .ok (.iconst 0, 1) := by decide +kernel
theorem dX10_isLaterThere_61 : decode cX10_isLaterThere 61 = .ok (.ireturn, 1) := by decide +kernel
set_option maxRecDepth 20000 in
theorem ggX10_idAt_X10_p : GoodIn wsX10_idAt wsX10_p := goodIn_ca (goodIn_r _ [5, 6, 7, 8, 9, 10, 11, 12, 13, 14, 15, 16, 17, 18, 19, 20, 21, 22, 23, 24] (by decide +kernel) (by decide +kernel)) (goodIn_sub (fun _ h => List.mem_cons_of_mem _ (List.mem_append_right _ h)) (by decide +kernel))
set_option maxRecDepth 20000 in
theorem gX10_idAt_X10_p : GoodIn wsX10_idAt (wsV RX10 56 RX10 yX10_p wsX10_p) := goodIn_app (goodIn_of _ (by decide +kernel)) ggX10_idAt_X10_p
theorem dX10_idAt_0 : decode cX10_idAt 0 = .ok (.iload_n 1, 1) := by decide +kernel
theorem dX10_idAt_1 : decode cX10_idAt 1 = .ok (.ifCond .ge 7, 3) := by decide +kernel
theorem dX10_idAt_4 : decode cX10_idAt 4 = .ok (.iconst 0, 1) := by decide +kernel
theorem dX10_idAt_5 : decode cX10_idAt 5 = .ok (.goto 9, 3) := by decide +kernel
theorem dX10_idAt_8 : decode cX10_idAt 8 = .ok (.aload_n 0, 1) := by decide +kernel
theorem dX10_idAt_9 : decode cX10_idAt 9 = .ok (.iload_n 1, 1) := by decide +kernel
theorem dX10_idAt_10 : decode cX10_idAt 10 = .ok (.iconst 0, 1) := by decide +kernel
theorem dX10_idAt_11 : decode cX10_idAt 11 = .ok (.invokevirtual 56, 3) := by decide +kernel
theorem dX10_idAt_14 : decode cX10_idAt 14 = .ok (.ireturn, 1) := by decide +kernel
set_option maxRecDepth 20000 in
theorem ggX10_addsPrint_X10_findTrack : GoodIn wsX10_addsPrint wsX10_findTrack := goodIn_ca (goodIn_r _ [7, 1, 45, 46, 47, 48, 49, 50, 51, 52, 53, 54, 55, 56, 57, 58, 59, 60, 61, 62] (by decide +kernel) (by decide +kernel)) (goodIn_sub (fun _ h => List.mem_cons_of_mem _ (List.mem_append_right _ h)) (by decide +kernel))
set_option maxRecDepth 20000 in
theorem gX10_addsPrint_X10_findTrack : GoodIn wsX10_addsPrint (wsV RX10 79 RX10 yX10_findTrack wsX10_findTrack) := goodIn_app (goodIn_of _ (by decide +kernel)) ggX10_addsPrint_X10_findTrack
set_option maxRecDepth 20000 in
theorem ggX10_addsPrint_X10_isCell : GoodIn wsX10_addsPrint wsX10_isCell := goodIn_r _ [10, 11, 12, 6, 13] (by decide +kernel) (by decide +kernel)
set_option maxRecDepth 20000 in
theorem gX10_addsPrint_X10_isCell : GoodIn wsX10_addsPrint (va_wsS RX10 117 yX10_isCell wsX10_isCell) := goodIn_app (goodIn_of _ (by decide +kernel)) ggX10_addsPrint_X10_isCell
set_option maxRecDepth 20000 in
theorem ggX10_addsPrint_X10_in : GoodIn wsX10_addsPrint wsX10_in := goodIn_r _ [13] (by decide +kernel) (by decide +kernel)
set_option maxRecDepth 20000 in
theorem gX10_addsPrint_X10_in : GoodIn wsX10_addsPrint (va_wsS RX10 60 yX10_in wsX10_in) := goodIn_app (goodIn_of _ (by decide +kernel)) ggX10_addsPrint_X10_in
set_option maxRecDepth 20000 in
theorem ggX10_addsPrint_X10_atTime : GoodIn wsX10_addsPrint wsX10_atTime := goodIn_ca (goodIn_r _ [17, 1, 18, 19, 20, 6, 21, 45, 46, 47, 48, 49, 50, 51, 52, 53, 54, 55, 56, 57, 58, 59, 60, 61, 62] (by decide +kernel) (by decide +kernel)) (goodIn_sub (fun _ h => List.mem_cons_of_mem _ (List.mem_append_right _ h)) (by decide +kernel))
set_option maxRecDepth 20000 in
theorem gX10_addsPrint_X10_atTime : GoodIn wsX10_addsPrint (wsV RX10 120 RX10 yX10_atTime wsX10_atTime) := goodIn_app (goodIn_of _ (by decide +kernel)) ggX10_addsPrint_X10_atTime
set_option maxRecDepth 20000 in
theorem ggX10_addsPrint_X10_inCell : GoodIn wsX10_addsPrint wsX10_inCell := goodIn_ca (goodIn_r _ [25, 1, 18, 19, 20, 6, 21, 45, 46, 47, 48, 49, 50, 51, 52, 53, 54, 55, 56, 57, 58, 59, 60, 61, 62] (by decide +kernel) (by decide +kernel)) (goodIn_sub (fun _ h => List.mem_cons_of_mem _ (List.mem_append_right _ h)) (by decide +kernel))
set_option maxRecDepth 20000 in
theorem gX10_addsPrint_X10_inCell : GoodIn wsX10_addsPrint (wsV RX10 123 RX10 yX10_inCell wsX10_inCell) := goodIn_app (goodIn_of _ (by decide +kernel)) ggX10_addsPrint_X10_inCell
set_option maxRecDepth 20000 in
theorem ggX10_addsPrint_X10_rejects : GoodIn wsX10_addsPrint wsX10_rejects := goodIn_r _ [29, 30, 31, 32, 45, 46, 47, 48, 49, 50, 51, 52, 53, 54, 55, 56, 57, 58, 59, 60, 61, 62] (by decide +kernel) (by decide +kernel)
set_option maxRecDepth 20000 in
theorem gX10_addsPrint_X10_rejects : GoodIn wsX10_addsPrint (wsV RX10 89 RX10 yX10_rejects wsX10_rejects) := goodIn_app (goodIn_of _ (by decide +kernel)) ggX10_addsPrint_X10_rejects
set_option maxRecDepth 20000 in
theorem ggX10_addsPrint_X10_idAt : GoodIn wsX10_addsPrint wsX10_idAt := goodIn_ca (goodIn_r _ [36, 18, 19, 20, 6, 21, 1, 45, 46, 47, 48, 49, 50, 51, 52, 53, 54, 55, 56, 57, 58, 59, 60, 61, 62] (by decide +kernel) (by decide +kernel)) (goodIn_sub (fun _ h => List.mem_cons_of_mem _ (List.mem_append_right _ h)) (by decide +kernel))
set_option maxRecDepth 20000 in
theorem gX10_addsPrint_X10_idAt : GoodIn wsX10_addsPrint (wsV RX10 126 RX10 yX10_idAt wsX10_idAt) := goodIn_app (goodIn_of _ (by decide +kernel)) ggX10_addsPrint_X10_idAt
set_option maxRecDepth 20000 in
theorem ggX10_addsPrint_X10_isLaterThere : GoodIn wsX10_addsPrint wsX10_isLaterThere := goodIn_ca (goodIn_r _ [40, 1, 18, 19, 20, 6, 21, 45, 46, 47, 48, 49, 50, 51, 52, 53, 54, 55, 56, 57, 58, 59, 60, 61, 62] (by decide +kernel) (by decide +kernel)) (goodIn_sub (fun _ h => List.mem_cons_of_mem _ (List.mem_append_right _ h)) (by decide +kernel))
set_option maxRecDepth 20000 in
theorem gX10_addsPrint_X10_isLaterThere : GoodIn wsX10_addsPrint (wsV RX10 129 RX10 yX10_isLaterThere wsX10_isLaterThere) := goodIn_app (goodIn_of _ (by decide +kernel)) ggX10_addsPrint_X10_isLaterThere
set_option maxRecDepth 20000 in
theorem ggX10_addsPrint_X10_set : GoodIn wsX10_addsPrint wsX10_set := goodIn_ca (goodIn_r _ [44, 1, 45, 46, 47, 48, 49, 50, 51, 52, 53, 54, 55, 56, 57, 58, 59, 60, 61, 62] (by decide +kernel) (by decide +kernel)) (goodIn_sub (fun _ h => List.mem_cons_of_mem _ (List.mem_append_right _ h)) (by decide +kernel))
set_option maxRecDepth 20000 in
theorem gX10_addsPrint_X10_set : GoodIn wsX10_addsPrint (wsV RX10 103 RX10 yX10_set wsX10_set) := goodIn_app (goodIn_of _ (by decide +kernel)) ggX10_addsPrint_X10_set
theorem dX10_addsPrint_0 : decode cX10_addsPrint 0 = .ok (.aload_n 0, 1) := by decide +kernel
theorem dX10_addsPrint_1 : decode cX10_addsPrint 1 = .ok (.iload_n 1, 1) := by decide +kernel
theorem dX10_addsPrint_2 : decode cX10_addsPrint 2 = .ok (.invokevirtual 79, 3) := by decide +kernel
theorem dX10_addsPrint_5 : decode cX10_addsPrint 5 = .ok (.ifCond .lt 12, 3) := by decide +kernel
theorem dX10_addsPrint_8 : decode cX10_addsPrint 8 = .ok (.iload_n 3, 1) := by decide +kernel
theorem dX10_addsPrint_9 : decode cX10_addsPrint 9 = .ok (.iload 4, 2) := by decide +kernel
theorem dX10_addsPrint_11 : decode cX10_addsPrint 11 = .ok (.invokestatic 117, 3) := by decide +kernel
theorem dX10_addsPrint_14 : decode cX10_addsPrint 14 = .ok (.ifCond .ne 5, 3) := by decide +kernel
theorem dX10_addsPrint_17 : decode cX10_addsPrint 17 = .ok (.iconst 1, 1) := by decide +kernel
theorem dX10_addsPrint_18 : decode cX10_addsPrint 18 = .ok (.ireturn, 1) := by decide +kernel
theorem dX10_addsPrint_19 : decode cX10_addsPrint 19 = .ok (.iload_n 2, 1) := by decide +kernel
theorem dX10_addsPrint_20 : decode cX10_addsPrint 20 = .ok (.iconst 0, 1) := by decide +kernel
theorem dX10_addsPrint_21 : decode cX10_addsPrint 21 = .ok (.sipush 999, 3) := by decide +kernel
theorem dX10_addsPrint_24 : decode cX10_addsPrint 24 = .ok (.invokestatic 60, 3) := by decide +kernel
theorem dX10_addsPrint_27 : decode cX10_addsPrint 27 = .ok (.ifCond .eq 14, 3) := by decide +kernel
theorem dX10_addsPrint_30 : decode cX10_addsPrint 30 = .ok (.iload 6, 2) := by decide +kernel
theorem dX10_addsPrint_32 : decode cX10_addsPrint 32 = .ok (.iconst 1, 1) := by decide +kernel
theorem dX10_addsPrint_33 : decode cX10_addsPrint 33 = .ok (.bipush 9, 2) := by decide +kernel
theorem dX10_addsPrint_35 : decode cX10_addsPrint 35 = .ok (.invokestatic 60, 3) := by decide +kernel
theorem dX10_addsPrint_38 : decode cX10_addsPrint 38 = .ok (.ifCond .ne 5, 3) := by decide +kernel
theorem dX10_addsPrint_41 : decode cX10_addsPrint 41 = .ok (.iconst 2, 1) := by decide +kernel
theorem dX10_addsPrint_42 : decode cX10_addsPrint 42 = .ok (.ireturn, 1) := by decide +kernel
theorem dX10_addsPrint_43 : decode cX10_addsPrint 43 = .ok (.aload_n 0, 1) := by decide +kernel
theorem dX10_addsPrint_44 : decode cX10_addsPrint 44 = .ok (.getfield 9, 3) := by decide +kernel
theorem dX10_addsPrint_47 : decode cX10_addsPrint 47 = .ok (.iconst 1, 1) := by decide +kernel
theorem dX10_addsPrint_48 : decode cX10_addsPrint 48 = .ok (.iaload, 1) := by decide +kernel
theorem dX10_addsPrint_49 : decode cX10_addsPrint 49 = .ok (.istore 7, 2) := by decide +kernel
theorem dX10_addsPrint_51 : decode cX10_addsPrint 51 = .ok (.aload_n 0, 1) := by decide +kernel
theorem dX10_addsPrint_52 : decode cX10_addsPrint 52 = .ok (.iload_n 1, 1) := by decide +kernel
theorem dX10_addsPrint_53 : decode cX10_addsPrint 53 = .ok (.iload_n 2, 1) := by decide +kernel
theorem dX10_addsPrint_54 : decode cX10_addsPrint 54 = .ok (.invokevirtual 120, 3) := by decide +kernel
theorem dX10_addsPrint_57 : decode cX10_addsPrint 57 = .ok (.istore 8, 2) := by decide +kernel
theorem dX10_addsPrint_59 : decode cX10_addsPrint 59 = .ok (.aload_n 0, 1) := by decide +kernel
theorem dX10_addsPrint_60 : decode cX10_addsPrint 60 = .ok (.iload_n 3, 1) := by decide +kernel
theorem dX10_addsPrint_61 : decode cX10_addsPrint 61 = .ok (.iload 4, 2) := by decide +kernel
theorem dX10_addsPrint_63 : decode cX10_addsPrint 63 = .ok (.invokevirtual 123, 3) := by decide +kernel
theorem dX10_addsPrint_66 : decode cX10_addsPrint 66 = .ok (.istore 9, 2) := by decide +kernel
theorem dX10_addsPrint_68 : decode cX10_addsPrint 68 = .ok (.aload_n 0, 1) := by decide +kernel
theorem dX10_addsPrint_69 : decode cX10_addsPrint 69 = .ok (.iload 7, 2) := by decide +kernel
theorem dX10_addsPrint_71 : decode cX10_addsPrint 71 = .ok (.bipush 30, 2) := by decide +kernel
theorem dX10_addsPrint_73 : decode cX10_addsPrint 73 = .ok (.if_icmp .ne 7, 3) := by decide +kernel
theorem dX10_addsPrint_76 : decode cX10_addsPrint 76 = .ok (.iconst 1, 1) := by decide +kernel
theorem dX10_addsPrint_77 : decode cX10_addsPrint 77 = .ok (.goto 4, 3) := by decide +kernel
theorem dX10_addsPrint_80 : decode cX10_addsPrint 80 = .ok (.iconst 0, 1) := by decide +kernel
theorem dX10_addsPrint_81 : decode cX10_addsPrint 81 = .ok (.iconst 2, 1) := by decide +kernel
theorem dX10_addsPrint_82 : decode cX10_addsPrint 82 = .ok (.bipush 30, 2) := by decide +kernel
theorem dX10_addsPrint_84 : decode cX10_addsPrint 84 = .ok (.invokevirtual 89, 3) := by decide +kernel
theorem dX10_addsPrint_87 : decode cX10_addsPrint 87 = .ok (.ifCond .ne 80, 3) := by decide +kernel
theorem dX10_addsPrint_90 : decode cX10_addsPrint 90 = .ok (.aload_n 0, 1) := by decide +kernel
theorem dX10_addsPrint_91 : decode cX10_addsPrint 91 = .ok (.iload 8, 2) := by decide +kernel
theorem dX10_addsPrint_93 : decode cX10_addsPrint 93 = .ok (.ifCond .lt 7, 3) := by decide +kernel
theorem dX10_addsPrint_96 : decode cX10_addsPrint 96 = .ok (.iconst 1, 1) := by decide +kernel
theorem dX10_addsPrint_97 : decode cX10_addsPrint 97 = .ok (.goto 4, 3) := by decide +kernel
theorem dX10_addsPrint_100 : decode cX10_addsPrint 100 = .ok (.iconst 0, 1) := by decide +kernel
theorem dX10_addsPrint_101 : decode cX10_addsPrint 101 = .ok (.iconst 3, 1) := by decide +kernel
theorem dX10_addsPrint_102 : decode cX10_addsPrint 102 = .ok (.aload_n 0, 1) := by decide +kernel
theorem dX10_addsPrint_103 : decode cX10_addsPrint 103 = .ok (.iload 8, 2) := by decide +kernel
theorem dX10_addsPrint_105 : decode cX10_addsPrint 105 = .ok (.invokevirtual 126, 3) := by decide +kernel
theorem dX10_addsPrint_108 : decode cX10_addsPrint 108 = .ok (.invokevirtual 89, 3) := by decide +kernel
theorem dX10_addsPrint_111 : decode cX10_addsPrint 111 = .ok (.ifCond .ne 56, 3) := by decide +kernel
theorem dX10_addsPrint_114 : decode cX10_addsPrint 114 = .ok (.aload_n 0, 1) := by decide +kernel
theorem dX10_addsPrint_115 : decode cX10_addsPrint 115 = .ok (.iload_n 3, 1) := by decide +kernel
theorem dX10_addsPrint_116 : decode cX10_addsPrint 116 = .ok (.aload_n 0, 1) := by decide +kernel
theorem dX10_addsPrint_117 : decode cX10_addsPrint 117 = .ok (.getfield 9, 3) := by decide +kernel
theorem dX10_addsPrint_120 : decode cX10_addsPrint 120 = .ok (.iconst 4, 1) := by decide +kernel
theorem dX10_addsPrint_121 : decode cX10_addsPrint 121 = .ok (.iaload, 1) := by decide +kernel
theorem dX10_addsPrint_122 : decode cX10_addsPrint 122 = .ok (.if_icmp .ge 7, 3) := by decide +kernel
theorem dX10_addsPrint_125 : decode cX10_addsPrint 125 = .ok (.iconst 1, 1) := by decide +kernel
theorem dX10_addsPrint_126 : decode cX10_addsPrint 126 = .ok (.goto 4, 3) := by decide +kernel
theorem dX10_addsPrint_129 : decode cX10_addsPrint 129 = .ok (.iconst 0, 1) := by decide +kernel
theorem dX10_addsPrint_130 : decode cX10_addsPrint 130 = .ok (.iconst 4, 1) := by decide +kernel
theorem dX10_addsPrint_131 : decode cX10_addsPrint 131 = .ok (.aload_n 0, 1) := by decide +kernel
theorem dX10_addsPrint_132 : decode cX10_addsPrint 132 = .ok (.getfield 9, 3) := by decide +kernel
theorem dX10_addsPrint_135 : decode cX10_addsPrint 135 = .ok (.iconst 4, 1) := by decide +kernel
theorem dX10_addsPrint_136 : decode cX10_addsPrint 136 = .ok (.iaload, 1) := by decide +kernel
theorem dX10_addsPrint_137 : decode cX10_addsPrint 137 = .ok (.invokevirtual 89, 3) := by decide +kernel
theorem dX10_addsPrint_140 : decode cX10_addsPrint 140 = .ok (.ifCond .ne 27, 3) := by decide +kernel
theorem dX10_addsPrint_143 : decode cX10_addsPrint 143 = .ok (.aload_n 0, 1) := by decide +kernel
theorem dX10_addsPrint_144 : decode cX10_addsPrint 144 = .ok (.iload 9, 2) := by decide +kernel
theorem dX10_addsPrint_146 : decode cX10_addsPrint 146 = .ok (.ifCond .lt 7, 3) := by decide +kernel
theorem dX10_addsPrint_149 : decode cX10_addsPrint 149 = .ok (.iconst 1, 1) := by decide +kernel
theorem dX10_addsPrint_150 : decode cX10_addsPrint 150 = .ok (.goto 4, 3) := by decide +kernel
theorem dX10_addsPrint_153 : decode cX10_addsPrint 153 = .ok (.iconst 0, 1) := by decide +kernel
theorem dX10_addsPrint_154 : decode cX10_addsPrint 154 = .ok (.iconst 5, 1) := by decide +kernel
theorem dX10_addsPrint_155 : decode cX10_addsPrint 155 = .ok (.aload_n 0, 1) := by decide +kernel
theorem dX10_addsPrint_156 : decode cX10_addsPrint 156 = .ok (.iload 9, 2) := by decide +kernel
theorem dX10_addsPrint_158 : decode cX10_addsPrint 158 = .ok (.invokevirtual 126, 3) := by decide +kernel
theorem dX10_addsPrint_161 : decode cX10_addsPrint 161 = .ok (.invokevirtual 89, 3) := by decide +kernel
theorem dX10_addsPrint_164 : decode cX10_addsPrint 164 = .ok (.ifCond .eq 5, 3) := by decide +kernel
theorem dX10_addsPrint_167 : decode cX10_addsPrint 167 = .ok (.iconst 3, 1) := by decide +kernel
theorem dX10_addsPrint_168 : decode cX10_addsPrint 168 = .ok (.ireturn, 1) := by decide +kernel
theorem dX10_addsPrint_169 : decode cX10_addsPrint 169 = .ok (.aload_n 0, 1) := by decide +kernel
theorem dX10_addsPrint_170 : decode cX10_addsPrint 170 = .ok (.iload_n 1, 1) := by decide +kernel
theorem dX10_addsPrint_171 : decode cX10_addsPrint 171 = .ok (.iload_n 2, 1) := by decide +kernel
theorem dX10_addsPrint_172 : decode cX10_addsPrint 172 = .ok (.invokevirtual 129, 3) := by decide +kernel
theorem dX10_addsPrint_175 : decode cX10_addsPrint 175 = .ok (.istore 10, 2) := by decide +kernel
theorem dX10_addsPrint_177 : decode cX10_addsPrint 177 = .ok (.aload_n 0, 1) := by decide +kernel
theorem dX10_addsPrint_178 : decode cX10_addsPrint 178 = .ok (.aload_n 0, 1) := by decide +kernel
theorem dX10_addsPrint_179 : decode cX10_addsPrint 179 = .ok (.getfield 9, 3) := by decide +kernel
theorem dX10_addsPrint_182 : decode cX10_addsPrint 182 = .ok (.iconst 3, 1) := by decide +kernel
theorem dX10_addsPrint_183 : decode cX10_addsPrint 183 = .ok (.iaload, 1) := by decide +kernel
theorem dX10_addsPrint_184 : decode cX10_addsPrint 184 = .ok (.putfield 37, 3) := by decide +kernel
theorem dX10_addsPrint_187 : decode cX10_addsPrint 187 = .ok (.aload_n 0, 1) := by decide +kernel
theorem dX10_addsPrint_188 : decode cX10_addsPrint 188 = .ok (.getfield 9, 3) := by decide +kernel
theorem dX10_addsPrint_191 : decode cX10_addsPrint 191 = .ok (.iconst 3, 1) := by decide +kernel
theorem dX10_addsPrint_192 : decode cX10_addsPrint 192 = .ok (.dup2, 1) := by decide +kernel
theorem dX10_addsPrint_193 : decode cX10_addsPrint 193 = .ok (.iaload, 1) := by decide +kernel
theorem dX10_addsPrint_194 : decode cX10_addsPrint 194 = .ok (.iconst 1, 1) := by decide +kernel
theorem dX10_addsPrint_195 : decode cX10_addsPrint 195 = .ok (.iadd, 1) := by decide +kernel
theorem dX10_addsPrint_196 : decode cX10_addsPrint 196 = .ok (.iastore, 1) := by decide +kernel
theorem dX10_addsPrint_197 : decode cX10_addsPrint 197 = .ok (.aload_n 0, 1) := by decide +kernel
theorem dX10_addsPrint_198 : decode cX10_addsPrint 198 = .ok (.getfield 9, 3) := by decide +kernel
theorem dX10_addsPrint_201 : decode cX10_addsPrint 201 = .ok (.iconst 1, 1) := by decide +kernel
theorem dX10_addsPrint_202 : decode cX10_addsPrint 202 = .ok (.dup2, 1) := by decide +kernel
theorem dX10_addsPrint_203 : decode cX10_addsPrint 203 = .ok (.iaload, 1) := by decide +kernel
theorem dX10_addsPrint_204 : decode cX10_addsPrint 204 = .ok (.iconst 1, 1) := by decide +kernel
theorem dX10_addsPrint_205 : decode cX10_addsPrint 205 = .ok (.iadd, 1) := by decide +kernel
theorem dX10_addsPrint_206 : decode cX10_addsPrint 206 = .ok (.iastore, 1) := by decide +kernel
theorem dX10_addsPrint_207 : decode cX10_addsPrint 207 = .ok (.aload_n 0, 1) := by decide +kernel
theorem dX10_addsPrint_208 : decode cX10_addsPrint 208 = .ok (.iload 7, 2) := by decide +kernel
theorem dX10_addsPrint_210 : decode cX10_addsPrint 210 = .ok (.iconst 0, 1) := by decide +kernel
theorem dX10_addsPrint_211 : decode cX10_addsPrint 211 = .ok (.aload_n 0, 1) := by decide +kernel
theorem dX10_addsPrint_212 : decode cX10_addsPrint 212 = .ok (.getfield 37, 3) := by decide +kernel
theorem dX10_addsPrint_215 : decode cX10_addsPrint 215 = .ok (.invokevirtual 103, 3) := by decide +kernel
theorem dX10_addsPrint_218 : decode cX10_addsPrint 218 = .ok (.aload_n 0, 1) := by decide +kernel
theorem dX10_addsPrint_219 : decode cX10_addsPrint 219 = .ok (.iload 7, 2) := by decide +kernel
theorem dX10_addsPrint_221 : decode cX10_addsPrint 221 = .ok (.iconst 1, 1) := by decide +kernel
theorem dX10_addsPrint_222 : decode cX10_addsPrint 222 = .ok (.iload_n 1, 1) := by decide +kernel
theorem dX10_addsPrint_223 : decode cX10_addsPrint 223 = .ok (.invokevirtual 103, 3) := by decide +kernel
theorem dX10_addsPrint_226 : decode cX10_addsPrint 226 = .ok (.aload_n 0, 1) := by decide +kernel
theorem dX10_addsPrint_227 : decode cX10_addsPrint 227 = .ok (.iload 7, 2) := by decide +kernel
theorem dX10_addsPrint_229 : decode cX10_addsPrint 229 = .ok (.iconst 2, 1) := by decide +kernel
theorem dX10_addsPrint_230 : decode cX10_addsPrint 230 = .ok (.iload_n 2, 1) := by decide +kernel
theorem dX10_addsPrint_231 : decode cX10_addsPrint 231 = .ok (.invokevirtual 103, 3) := by decide +kernel
theorem dX10_addsPrint_234 : decode cX10_addsPrint 234 = .ok (.aload_n 0, 1) := by decide +kernel
theorem dX10_addsPrint_235 : decode cX10_addsPrint 235 = .ok (.iload 7, 2) := by decide +kernel
theorem dX10_addsPrint_237 : decode cX10_addsPrint 237 = .ok (.iconst 3, 1) := by decide +kernel
theorem dX10_addsPrint_238 : decode cX10_addsPrint 238 = .ok (.iload_n 3, 1) := by decide +kernel
theorem dX10_addsPrint_239 : decode cX10_addsPrint 239 = .ok (.invokevirtual 103, 3) := by decide +kernel
theorem dX10_addsPrint_242 : decode cX10_addsPrint 242 = .ok (.aload_n 0, 1) := by decide +kernel
theorem dX10_addsPrint_243 : decode cX10_addsPrint 243 = .ok (.iload 7, 2) := by decide +kernel
theorem dX10_addsPrint_245 : decode cX10_addsPrint 245 = .ok (.iconst 4, 1) := by decide +kernel
theorem dX10_addsPrint_246 : decode cX10_addsPrint 246 = .ok (.iload 4, 2) := by decide +kernel
theorem dX10_addsPrint_248 : decode cX10_addsPrint 248 = .ok (.invokevirtual 103, 3) := by decide +kernel
theorem dX10_addsPrint_251 : decode cX10_addsPrint 251 = .ok (.aload_n 0, 1) := by decide +kernel
theorem dX10_addsPrint_252 : decode cX10_addsPrint 252 = .ok (.iload 7, 2) := by decide +kernel
theorem dX10_addsPrint_254 : decode cX10_addsPrint 254 = .ok (.iconst 5, 1) := by decide +kernel
theorem dX10_addsPrint_255 : decode cX10_addsPrint 255 = .ok (.iload 5, 2) := by decide +kernel
theorem dX10_addsPrint_257 : decode cX10_addsPrint 257 = .ok (.invokevirtual 103, 3) := by decide +kernel
theorem dX10_addsPrint_260 : decode cX10_addsPrint 260 = .ok (.aload_n 0, 1) := by decide +kernel
theorem dX10_addsPrint_261 : decode cX10_addsPrint 261 = .ok (.iload 7, 2) := by decide +kernel
theorem dX10_addsPrint_263 : decode cX10_addsPrint 263 = .ok (.bipush 6, 2) := by decide +kernel
theorem dX10_addsPrint_265 : decode cX10_addsPrint 265 = .ok (.iload 6, 2) := by decide +kernel
theorem dX10_addsPrint_267 : decode cX10_addsPrint 267 = .ok (.invokevirtual 103, 3) := by decide +kernel
theorem dX10_addsPrint_270 : decode cX10_addsPrint 270 = .ok (.aload_n 0, 1) := by decide +kernel
theorem dX10_addsPrint_271 : decode cX10_addsPrint 271 = .ok (.iload 7, 2) := by decide +kernel
theorem dX10_addsPrint_273 : decode cX10_addsPrint 273 = .ok (.bipush 7, 2) := by decide +kernel
theorem dX10_addsPrint_275 : decode cX10_addsPrint 275 = .ok (.iconst 0, 1) := by decide +kernel
theorem dX10_addsPrint_276 : decode cX10_addsPrint 276 = .ok (.invokevirtual 103, 3) := by decide +kernel
theorem dX10_addsPrint_279 : decode cX10_addsPrint 279 = .ok (.aload_n 0, 1) := by decide +kernel
theorem dX10_addsPrint_280 : decode cX10_addsPrint 280 = .ok (.iload 7, 2) := by decide +kernel
theorem dX10_addsPrint_282 : decode cX10_addsPrint 282 = .ok (.bipush 8, 2) := by decide +kernel
theorem dX10_addsPrint_284 : decode cX10_addsPrint 284 = .ok (.iload 10, 2) := by decide +kernel
theorem dX10_addsPrint_286 : decode cX10_addsPrint 286 = .ok (.invokevirtual 103, 3) := by decide +kernel
theorem dX10_addsPrint_289 : decode cX10_addsPrint 289 = .ok (.iconst 0, 1) := by decide +kernel
theorem dX10_addsPrint_290 : decode cX10_addsPrint 290 = .ok (.ireturn, 1) := by decide +kernel
set_option maxRecDepth 20000 in
theorem ggX10_addPrint_X10_begins : GoodIn wsX10_addPrint wsX10_begins := goodIn_ca (goodIn_r _ [5, 6, 7, 8, 4, 9, 10, 63, 64, 65, 66, 67, 68, 69, 70, 71, 72, 73, 74, 75, 76, 77, 78, 79, 80] (by decide +kernel) (by decide +kernel)) (goodIn_sub (fun _ h => List.mem_cons_of_mem _ (List.mem_append_right _ h)) (by decide +kernel))
set_option maxRecDepth 20000 in
theorem gX10_addPrint_X10_begins : GoodIn wsX10_addPrint (wsV RX10 93 RX10 yX10_begins wsX10_begins) := goodIn_app (goodIn_of _ (by decide +kernel)) ggX10_addPrint_X10_begins
set_option maxRecDepth 20000 in
theorem ggX10_addPrint_X10_addsPrint : GoodIn wsX10_addPrint wsX10_addsPrint := goodIn_ca (goodIn_r _ [14, 10, 15, 16, 17, 18, 4, 19, 20, 21, 22, 23, 24, 25, 26, 27, 28, 29, 30, 31, 32, 33, 34, 35, 36, 37, 38, 39, 40, 41, 42, 43, 44, 45, 46, 47, 48, 49, 50, 51, 52, 53, 54, 55, 56, 63, 64, 65, 66, 67, 68, 69, 70, 71, 72, 73, 74, 75, 76, 77, 78, 79, 80] (by decide +kernel) (by decide +kernel)) (goodIn_sub (fun _ h => List.mem_cons_of_mem _ (List.mem_append_right _ h)) (by decide +kernel))
set_option maxRecDepth 20000 in
theorem gX10_addPrint_X10_addsPrint : GoodIn wsX10_addPrint (wsV RX10 132 RX10 yX10_addsPrint wsX10_addsPrint) := goodIn_app (goodIn_of _ (by decide +kernel)) ggX10_addPrint_X10_addsPrint
set_option maxRecDepth 20000 in
theorem ggX10_addPrint_X10_ends : GoodIn wsX10_addPrint wsX10_ends := goodIn_ca (goodIn_r _ [60, 61, 62, 15, 6, 7, 8, 4, 9, 10, 63, 64, 65, 66, 67, 68, 69, 70, 71, 72, 73, 74, 75, 76, 77, 78, 79, 80] (by decide +kernel) (by decide +kernel)) (goodIn_sub (fun _ h => List.mem_cons_of_mem _ (List.mem_append_right _ h)) (by decide +kernel))
set_option maxRecDepth 20000 in
theorem gX10_addPrint_X10_ends : GoodIn wsX10_addPrint (wsV RX10 99 RX10 yX10_ends wsX10_ends) := goodIn_app (goodIn_of _ (by decide +kernel)) ggX10_addPrint_X10_ends
theorem dX10_addPrint_0 : decode cX10_addPrint 0 = .ok (.aload_n 0, 1) := by decide +kernel
theorem dX10_addPrint_1 : decode cX10_addPrint 1 = .ok (.invokevirtual 93, 3) := by decide +kernel
theorem dX10_addPrint_4 : decode cX10_addPrint 4 = .ok (.aload_n 0, 1) := by decide +kernel
theorem dX10_addPrint_5 : decode cX10_addPrint 5 = .ok (.aload_n 0, 1) := by decide +kernel
theorem dX10_addPrint_6 : decode cX10_addPrint 6 = .ok (.iload_n 1, 1) := by decide +kernel
theorem dX10_addPrint_7 : decode cX10_addPrint 7 = .ok (.iload_n 2, 1) := by decide +kernel
theorem dX10_addPrint_8 : decode cX10_addPrint 8 = .ok (.iload_n 3, 1) := by decide +kernel
theorem dX10_addPrint_9 : decode cX10_addPrint 9 = .ok (.iload 4, 2) := by decide +kernel
theorem dX10_addPrint_11 : decode cX10_addPrint 11 = .ok (.iload 5, 2) := by decide +kernel
theorem dX10_addPrint_13 : decode cX10_addPrint 13 = .ok (.ifCond .eq 7, 3) := by decide +kernel
theorem dX10_addPrint_16 : decode cX10_addPrint 16 = .ok (.iconst 1, 1) := by decide +kernel
theorem dX10_addPrint_17 : decode cX10_addPrint 17 = .ok (.goto 4, 3) := by decide +kernel
theorem dX10_addPrint_20 : decode cX10_addPrint 20 = .ok (.iconst 0, 1) := by decide +kernel
theorem dX10_addPrint_21 : decode cX10_addPrint 21 = .ok (.iload 6, 2) := by decide +kernel
theorem dX10_addPrint_23 : decode cX10_addPrint 23 = .ok (.invokevirtual 132, 3) := by decide +kernel
theorem dX10_addPrint_26 : decode cX10_addPrint 26 = .ok (.iconst 1, 1) := by decide +kernel
theorem dX10_addPrint_27 : decode cX10_addPrint 27 = .ok (.iconst 2, 1) := by decide +kernel
theorem dX10_addPrint_28 : decode cX10_addPrint 28 = .ok (.iconst 3, 1) := by decide +kernel
theorem dX10_addPrint_29 : decode cX10_addPrint 29 = .ok (.invokevirtual 99, 3) := by decide +kernel
theorem dX10_addPrint_32 : decode cX10_addPrint 32 = .ok (.ireturn, 1) := by decide +kernel
set_option maxRecDepth 20000 in
theorem ggX10_removesPrint_X10_find : GoodIn wsX10_removesPrint wsX10_find := goodIn_ca (goodIn_r _ [6, 7, 8, 9, 10, 5, 11, 20, 21, 22, 23, 24, 25, 26, 27, 28, 29, 30, 31, 32, 33, 34, 35, 36, 37] (by decide +kernel) (by decide +kernel)) (goodIn_sub (fun _ h => List.mem_cons_of_mem _ (List.mem_append_right _ h)) (by decide +kernel))
set_option maxRecDepth 20000 in
theorem gX10_removesPrint_X10_find : GoodIn wsX10_removesPrint (wsV RX10 136 RX10 yX10_find wsX10_find) := goodIn_app (goodIn_of _ (by decide +kernel)) ggX10_removesPrint_X10_find
set_option maxRecDepth 20000 in
theorem ggX10_removesPrint_X10_p : GoodIn wsX10_removesPrint wsX10_p := goodIn_ca (goodIn_r _ [11, 7, 20, 21, 22, 23, 24, 25, 26, 27, 28, 29, 30, 31, 32, 33, 34, 35, 36, 37] (by decide +kernel) (by decide +kernel)) (goodIn_sub (fun _ h => List.mem_cons_of_mem _ (List.mem_append_right _ h)) (by decide +kernel))
set_option maxRecDepth 20000 in
theorem gX10_removesPrint_X10_p : GoodIn wsX10_removesPrint (wsV RX10 56 RX10 yX10_p wsX10_p) := goodIn_app (goodIn_of _ (by decide +kernel)) ggX10_removesPrint_X10_p
set_option maxRecDepth 20000 in
theorem ggX10_removesPrint_X10_goes : GoodIn wsX10_removesPrint wsX10_goes := goodIn_ca (goodIn_r _ [15, 7, 16, 17, 18, 5, 19, 20, 21, 22, 23, 24, 25, 26, 27, 28, 29, 30, 31, 32, 33, 34, 35, 36, 37] (by decide +kernel) (by decide +kernel)) (goodIn_sub (fun _ h => List.mem_cons_of_mem _ (List.mem_append_right _ h)) (by decide +kernel))
set_option maxRecDepth 20000 in
theorem gX10_removesPrint_X10_goes : GoodIn wsX10_removesPrint (wsV RX10 110 RX10 yX10_goes wsX10_goes) := goodIn_app (goodIn_of _ (by decide +kernel)) ggX10_removesPrint_X10_goes
theorem dX10_removesPrint_0 : decode cX10_removesPrint 0 = .ok (.aload_n 0, 1) := by decide +kernel
theorem dX10_removesPrint_1 : decode cX10_removesPrint 1 = .ok (.iload_n 1, 1) := by decide +kernel
theorem dX10_removesPrint_2 : decode cX10_removesPrint 2 = .ok (.invokevirtual 136, 3) := by decide +kernel
theorem dX10_removesPrint_5 : decode cX10_removesPrint 5 = .ok (.istore_n 2, 1) := by decide +kernel
theorem dX10_removesPrint_6 : decode cX10_removesPrint 6 = .ok (.iload_n 2, 1) := by decide +kernel
theorem dX10_removesPrint_7 : decode cX10_removesPrint 7 = .ok (.ifCond .ge 5, 3) := by decide +kernel
theorem dX10_removesPrint_10 : decode cX10_removesPrint 10 = .ok (.iconst 1, 1) := by decide +kernel
theorem dX10_removesPrint_11 : decode cX10_removesPrint 11 = .ok (.ireturn, 1) := by decide +kernel
theorem dX10_removesPrint_12 : decode cX10_removesPrint 12 = .ok (.aload_n 0, 1) := by decide +kernel
theorem dX10_removesPrint_13 : decode cX10_removesPrint 13 = .ok (.aload_n 0, 1) := by decide +kernel
theorem dX10_removesPrint_14 : decode cX10_removesPrint 14 = .ok (.iload_n 2, 1) := by decide +kernel
theorem dX10_removesPrint_15 : decode cX10_removesPrint 15 = .ok (.iconst 1, 1) := by decide +kernel
theorem dX10_removesPrint_16 : decode cX10_removesPrint 16 = .ok (.invokevirtual 56, 3) := by decide +kernel
theorem dX10_removesPrint_19 : decode cX10_removesPrint 19 = .ok (.putfield 37, 3) := by decide +kernel
theorem dX10_removesPrint_22 : decode cX10_removesPrint 22 = .ok (.aload_n 0, 1) := by decide +kernel
theorem dX10_removesPrint_23 : decode cX10_removesPrint 23 = .ok (.iload_n 2, 1) := by decide +kernel
theorem dX10_removesPrint_24 : decode cX10_removesPrint 24 = .ok (.invokevirtual 110, 3) := by decide +kernel
theorem dX10_removesPrint_27 : decode cX10_removesPrint 27 = .ok (.iconst 0, 1) := by decide +kernel
theorem dX10_removesPrint_28 : decode cX10_removesPrint 28 = .ok (.ireturn, 1) := by decide +kernel
set_option maxRecDepth 20000 in
theorem ggX10_removePrint_X10_begins : GoodIn wsX10_removePrint wsX10_begins := goodIn_ca (goodIn_r _ [5, 6, 7, 8, 4, 9, 10, 38, 39, 40, 41, 42, 43, 44, 45, 46, 47, 48, 49, 50, 51, 52, 53, 54, 55] (by decide +kernel) (by decide +kernel)) (goodIn_sub (fun _ h => List.mem_cons_of_mem _ (List.mem_append_right _ h)) (by decide +kernel))
set_option maxRecDepth 20000 in
theorem gX10_removePrint_X10_begins : GoodIn wsX10_removePrint (wsV RX10 93 RX10 yX10_begins wsX10_begins) := goodIn_app (goodIn_of _ (by decide +kernel)) ggX10_removePrint_X10_begins
set_option maxRecDepth 20000 in
theorem ggX10_removePrint_X10_removesPrint : GoodIn wsX10_removePrint wsX10_removesPrint := goodIn_ca (goodIn_r _ [14, 15, 16, 17, 18, 4, 19, 10, 20, 21, 22, 23, 24, 25, 26, 27, 28, 29, 30, 31, 38, 39, 40, 41, 42, 43, 44, 45, 46, 47, 48, 49, 50, 51, 52, 53, 54, 55] (by decide +kernel) (by decide +kernel)) (goodIn_sub (fun _ h => List.mem_cons_of_mem _ (List.mem_append_right _ h)) (by decide +kernel))
set_option maxRecDepth 20000 in
theorem gX10_removePrint_X10_removesPrint : GoodIn wsX10_removePrint (wsV RX10 139 RX10 yX10_removesPrint wsX10_removesPrint) := goodIn_app (goodIn_of _ (by decide +kernel)) ggX10_removePrint_X10_removesPrint
set_option maxRecDepth 20000 in
theorem ggX10_removePrint_X10_ends : GoodIn wsX10_removePrint wsX10_ends := goodIn_ca (goodIn_r _ [35, 36, 37, 15, 6, 7, 8, 4, 9, 10, 38, 39, 40, 41, 42, 43, 44, 45, 46, 47, 48, 49, 50, 51, 52, 53, 54, 55] (by decide +kernel) (by decide +kernel)) (goodIn_sub (fun _ h => List.mem_cons_of_mem _ (List.mem_append_right _ h)) (by decide +kernel))
set_option maxRecDepth 20000 in
theorem gX10_removePrint_X10_ends : GoodIn wsX10_removePrint (wsV RX10 99 RX10 yX10_ends wsX10_ends) := goodIn_app (goodIn_of _ (by decide +kernel)) ggX10_removePrint_X10_ends
theorem dX10_removePrint_0 : decode cX10_removePrint 0 = .ok (.aload_n 0, 1) := by decide +kernel
theorem dX10_removePrint_1 : decode cX10_removePrint 1 = .ok (.invokevirtual 93, 3) := by decide +kernel
theorem dX10_removePrint_4 : decode cX10_removePrint 4 = .ok (.aload_n 0, 1) := by decide +kernel
theorem dX10_removePrint_5 : decode cX10_removePrint 5 = .ok (.aload_n 0, 1) := by decide +kernel
theorem dX10_removePrint_6 : decode cX10_removePrint 6 = .ok (.iload_n 1, 1) := by decide +kernel
theorem dX10_removePrint_7 : decode cX10_removePrint 7 = .ok (.invokevirtual 139, 3) := by decide +kernel
theorem dX10_removePrint_10 : decode cX10_removePrint 10 = .ok (.iconst 1, 1) := by decide +kernel
theorem dX10_removePrint_11 : decode cX10_removePrint 11 = .ok (.iconst 0, 1) := by decide +kernel
theorem dX10_removePrint_12 : decode cX10_removePrint 12 = .ok (.iconst 0, 1) := by decide +kernel
theorem dX10_removePrint_13 : decode cX10_removePrint 13 = .ok (.invokevirtual 99, 3) := by decide +kernel
theorem dX10_removePrint_16 : decode cX10_removePrint 16 = .ok (.ireturn, 1) := by decide +kernel
set_option maxRecDepth 20000 in
theorem ggX10_correctsHeel_X10_find : GoodIn wsX10_correctsHeel wsX10_find := goodIn_ca (goodIn_r _ [7, 1, 8, 9, 10, 6, 11, 44, 45, 46, 47, 48, 49, 50, 51, 52, 53, 54, 55, 56, 57, 58, 59, 60, 61] (by decide +kernel) (by decide +kernel)) (goodIn_sub (fun _ h => List.mem_cons_of_mem _ (List.mem_append_right _ h)) (by decide +kernel))
set_option maxRecDepth 20000 in
theorem gX10_correctsHeel_X10_find : GoodIn wsX10_correctsHeel (wsV RX10 136 RX10 yX10_find wsX10_find) := goodIn_app (goodIn_of _ (by decide +kernel)) ggX10_correctsHeel_X10_find
set_option maxRecDepth 20000 in
theorem ggX10_correctsHeel_X10_isCell : GoodIn wsX10_correctsHeel wsX10_isCell := goodIn_r _ [14, 15, 16, 6, 17] (by decide +kernel) (by decide +kernel)
set_option maxRecDepth 20000 in
theorem gX10_correctsHeel_X10_isCell : GoodIn wsX10_correctsHeel (va_wsS RX10 117 yX10_isCell wsX10_isCell) := goodIn_app (goodIn_of _ (by decide +kernel)) ggX10_correctsHeel_X10_isCell
set_option maxRecDepth 20000 in
theorem ggX10_correctsHeel_X10_distance : GoodIn wsX10_correctsHeel wsX10_distance := goodIn_ca (goodIn_r _ [21, 8, 9, 10, 6, 11, 1, 22, 23, 24, 44, 45, 46, 47, 48, 49, 50, 51, 52, 53, 54, 55, 56, 57, 58, 59, 60, 61] (by decide +kernel) (by decide +kernel)) (goodIn_sub (fun _ h => List.mem_cons_of_mem _ (List.mem_append_right _ h)) (by decide +kernel))
set_option maxRecDepth 20000 in
theorem gX10_correctsHeel_X10_distance : GoodIn wsX10_correctsHeel (wsV RX10 72 RX10 yX10_distance wsX10_distance) := goodIn_app (goodIn_of _ (by decide +kernel)) ggX10_correctsHeel_X10_distance
set_option maxRecDepth 20000 in
theorem ggX10_correctsHeel_X10_inCell : GoodIn wsX10_correctsHeel wsX10_inCell := goodIn_ca (goodIn_r _ [28, 1, 8, 9, 10, 6, 11, 44, 45, 46, 47, 48, 49, 50, 51, 52, 53, 54, 55, 56, 57, 58, 59, 60, 61] (by decide +kernel) (by decide +kernel)) (goodIn_sub (fun _ h => List.mem_cons_of_mem _ (List.mem_append_right _ h)) (by decide +kernel))
set_option maxRecDepth 20000 in
theorem gX10_correctsHeel_X10_inCell : GoodIn wsX10_correctsHeel (wsV RX10 123 RX10 yX10_inCell wsX10_inCell) := goodIn_app (goodIn_of _ (by decide +kernel)) ggX10_correctsHeel_X10_inCell
set_option maxRecDepth 20000 in
theorem ggX10_correctsHeel_X10_in : GoodIn wsX10_correctsHeel wsX10_in := goodIn_r _ [17] (by decide +kernel) (by decide +kernel)
set_option maxRecDepth 20000 in
theorem gX10_correctsHeel_X10_in : GoodIn wsX10_correctsHeel (va_wsS RX10 60 yX10_in wsX10_in) := goodIn_app (goodIn_of _ (by decide +kernel)) ggX10_correctsHeel_X10_in
set_option maxRecDepth 20000 in
theorem ggX10_correctsHeel_X10_rejects : GoodIn wsX10_correctsHeel wsX10_rejects := goodIn_r _ [32, 33, 34, 35, 44, 45, 46, 47, 48, 49, 50, 51, 52, 53, 54, 55, 56, 57, 58, 59, 60, 61] (by decide +kernel) (by decide +kernel)
set_option maxRecDepth 20000 in
theorem gX10_correctsHeel_X10_rejects : GoodIn wsX10_correctsHeel (wsV RX10 89 RX10 yX10_rejects wsX10_rejects) := goodIn_app (goodIn_of _ (by decide +kernel)) ggX10_correctsHeel_X10_rejects
set_option maxRecDepth 20000 in
theorem ggX10_correctsHeel_X10_idAt : GoodIn wsX10_correctsHeel wsX10_idAt := goodIn_ca (goodIn_r _ [39, 8, 9, 10, 6, 11, 1, 44, 45, 46, 47, 48, 49, 50, 51, 52, 53, 54, 55, 56, 57, 58, 59, 60, 61] (by decide +kernel) (by decide +kernel)) (goodIn_sub (fun _ h => List.mem_cons_of_mem _ (List.mem_append_right _ h)) (by decide +kernel))
set_option maxRecDepth 20000 in
theorem gX10_correctsHeel_X10_idAt : GoodIn wsX10_correctsHeel (wsV RX10 126 RX10 yX10_idAt wsX10_idAt) := goodIn_app (goodIn_of _ (by decide +kernel)) ggX10_correctsHeel_X10_idAt
set_option maxRecDepth 20000 in
theorem ggX10_correctsHeel_X10_set : GoodIn wsX10_correctsHeel wsX10_set := goodIn_ca (goodIn_r _ [43, 1, 44, 45, 46, 47, 48, 49, 50, 51, 52, 53, 54, 55, 56, 57, 58, 59, 60, 61] (by decide +kernel) (by decide +kernel)) (goodIn_sub (fun _ h => List.mem_cons_of_mem _ (List.mem_append_right _ h)) (by decide +kernel))
set_option maxRecDepth 20000 in
theorem gX10_correctsHeel_X10_set : GoodIn wsX10_correctsHeel (wsV RX10 103 RX10 yX10_set wsX10_set) := goodIn_app (goodIn_of _ (by decide +kernel)) ggX10_correctsHeel_X10_set
theorem dX10_correctsHeel_0 : decode cX10_correctsHeel 0 = .ok (.aload_n 0, 1) := by decide +kernel
theorem dX10_correctsHeel_1 : decode cX10_correctsHeel 1 = .ok (.iload_n 1, 1) := by decide +kernel
theorem dX10_correctsHeel_2 : decode cX10_correctsHeel 2 = .ok (.invokevirtual 136, 3) := by decide +kernel
theorem dX10_correctsHeel_5 : decode cX10_correctsHeel 5 = .ok (.istore 4, 2) := by decide +kernel
theorem dX10_correctsHeel_7 : decode cX10_correctsHeel 7 = .ok (.iload 4, 2) := by decide +kernel
theorem dX10_correctsHeel_9 : decode cX10_correctsHeel 9 = .ok (.ifCond .lt 11, 3) := by decide +kernel
theorem dX10_correctsHeel_12 : decode cX10_correctsHeel 12 = .ok (.iload_n 2, 1) := by decide +kernel
theorem dX10_correctsHeel_13 : decode cX10_correctsHeel 13 = .ok (.iload_n 3, 1) := by decide +kernel
theorem dX10_correctsHeel_14 : decode cX10_correctsHeel 14 = .ok (.invokestatic 117, 3) := by decide +kernel
theorem dX10_correctsHeel_17 : decode cX10_correctsHeel 17 = .ok (.ifCond .ne 5, 3) := by decide +kernel
theorem dX10_correctsHeel_20 : decode cX10_correctsHeel 20 = .ok (.iconst 1, 1) := by decide +kernel
theorem dX10_correctsHeel_21 : decode cX10_correctsHeel 21 = .ok (.ireturn, 1) := by decide +kernel
theorem dX10_correctsHeel_22 : decode cX10_correctsHeel 22 = .ok (.aload_n 0, 1) := by decide +kernel
theorem dX10_correctsHeel_23 : decode cX10_correctsHeel 23 = .ok (.iload 4, 2) := by decide +kernel
theorem dX10_correctsHeel_25 : decode cX10_correctsHeel 25 = .ok (.iload_n 2, 1) := by decide +kernel
theorem dX10_correctsHeel_26 : decode cX10_correctsHeel 26 = .ok (.iload_n 3, 1) := by decide +kernel
theorem dX10_correctsHeel_27 : decode cX10_correctsHeel 27 = .ok (.invokevirtual 72, 3) := by decide +kernel
theorem dX10_correctsHeel_30 : decode cX10_correctsHeel 30 = .ok (.istore 5, 2) := by decide +kernel
theorem dX10_correctsHeel_32 : decode cX10_correctsHeel 32 = .ok (.aload_n 0, 1) := by decide +kernel
theorem dX10_correctsHeel_33 : decode cX10_correctsHeel 33 = .ok (.iload_n 2, 1) := by decide +kernel
theorem dX10_correctsHeel_34 : decode cX10_correctsHeel 34 = .ok (.iload_n 3, 1) := by decide +kernel
theorem dX10_correctsHeel_35 : decode cX10_correctsHeel 35 = .ok (.invokevirtual 123, 3) := by decide +kernel
theorem dX10_correctsHeel_38 : decode cX10_correctsHeel 38 = .ok (.istore 6, 2) := by decide +kernel
theorem dX10_correctsHeel_40 : decode cX10_correctsHeel 40 = .ok (.aload_n 0, 1) := by decide +kernel
theorem dX10_correctsHeel_41 : decode cX10_correctsHeel 41 = .ok (.iload 5, 2) := by decide +kernel
theorem dX10_correctsHeel_43 : decode cX10_correctsHeel 43 = .ok (.iconst 1, 1) := by decide +kernel
theorem dX10_correctsHeel_44 : decode cX10_correctsHeel 44 = .ok (.iconst 2, 1) := by decide +kernel
theorem dX10_correctsHeel_45 : decode cX10_correctsHeel 45 = .ok (.invokestatic 60, 3) := by decide +kernel
theorem dX10_correctsHeel_48 : decode cX10_correctsHeel 48 = .ok (.ifCond .ne 7, 3) := by decide +kernel
theorem dX10_correctsHeel_51 : decode cX10_correctsHeel 51 = .ok (.iconst 1, 1) := by decide +kernel
theorem dX10_correctsHeel_52 : decode cX10_correctsHeel 52 = .ok (.goto 4, 3) := by decide +kernel
theorem dX10_correctsHeel_55 : decode cX10_correctsHeel 55 = .ok (.iconst 0, 1) := by decide +kernel
theorem dX10_correctsHeel_56 : decode cX10_correctsHeel 56 = .ok (.bipush 6, 2) := by decide +kernel
theorem dX10_correctsHeel_58 : decode cX10_correctsHeel 58 = .ok (.iload 5, 2) := by decide +kernel
theorem dX10_correctsHeel_60 : decode cX10_correctsHeel 60 = .ok (.invokevirtual 89, 3) := by decide +kernel
theorem dX10_correctsHeel_63 : decode cX10_correctsHeel 63 = .ok (.ifCond .ne 56, 3) := by decide +kernel
theorem dX10_correctsHeel_66 : decode cX10_correctsHeel 66 = .ok (.aload_n 0, 1) := by decide +kernel
theorem dX10_correctsHeel_67 : decode cX10_correctsHeel 67 = .ok (.iload_n 2, 1) := by decide +kernel
theorem dX10_correctsHeel_68 : decode cX10_correctsHeel 68 = .ok (.aload_n 0, 1) := by decide +kernel
theorem dX10_correctsHeel_69 : decode cX10_correctsHeel 69 = .ok (.getfield 9, 3) := by decide +kernel
theorem dX10_correctsHeel_72 : decode cX10_correctsHeel 72 = .ok (.iconst 4, 1) := by decide +kernel
theorem dX10_correctsHeel_73 : decode cX10_correctsHeel 73 = .ok (.iaload, 1) := by decide +kernel
theorem dX10_correctsHeel_74 : decode cX10_correctsHeel 74 = .ok (.if_icmp .ge 7, 3) := by decide +kernel
theorem dX10_correctsHeel_77 : decode cX10_correctsHeel 77 = .ok (.iconst 1, 1) := by decide +kernel
theorem dX10_correctsHeel_78 : decode cX10_correctsHeel 78 = .ok (.goto 4, 3) := by decide +kernel
theorem dX10_correctsHeel_81 : decode cX10_correctsHeel 81 = .ok (.iconst 0, 1) := by decide +kernel
theorem dX10_correctsHeel_82 : decode cX10_correctsHeel 82 = .ok (.iconst 4, 1) := by decide +kernel
theorem dX10_correctsHeel_83 : decode cX10_correctsHeel 83 = .ok (.aload_n 0, 1) := by decide +kernel
theorem dX10_correctsHeel_84 : decode cX10_correctsHeel 84 = .ok (.getfield 9, 3) := by decide +kernel
theorem dX10_correctsHeel_87 : decode cX10_correctsHeel 87 = .ok (.iconst 4, 1) := by decide +kernel
theorem dX10_correctsHeel_88 : decode cX10_correctsHeel 88 = .ok (.iaload, 1) := by decide +kernel
theorem dX10_correctsHeel_89 : decode cX10_correctsHeel 89 = .ok (.invokevirtual 89, 3) := by decide +kernel
theorem dX10_correctsHeel_92 : decode cX10_correctsHeel 92 = .ok (.ifCond .ne 27, 3) := by decide +kernel
theorem dX10_correctsHeel_95 : decode cX10_correctsHeel 95 = .ok (.aload_n 0, 1) := by decide +kernel
theorem dX10_correctsHeel_96 : decode cX10_correctsHeel 96 = .ok (.iload 6, 2) := by decide +kernel
theorem dX10_correctsHeel_98 : decode cX10_correctsHeel 98 = .ok (.ifCond .lt 7, 3) := by decide +kernel
theorem dX10_correctsHeel_101 : decode cX10_correctsHeel 101 = .ok (.iconst 1, 1) := by decide +kernel
theorem dX10_correctsHeel_102 : decode cX10_correctsHeel 102 = .ok (.goto 4, 3) := by decide +kernel
theorem dX10_correctsHeel_105 : decode cX10_correctsHeel 105 = .ok (.iconst 0, 1) := by decide +kernel
theorem dX10_correctsHeel_106 : decode cX10_correctsHeel 106 = .ok (.iconst 5, 1) := by decide +kernel
theorem dX10_correctsHeel_107 : decode cX10_correctsHeel 107 = .ok (.aload_n 0, 1) := by decide +kernel
theorem dX10_correctsHeel_108 : decode cX10_correctsHeel 108 = .ok (.iload 6, 2) := by decide +kernel
theorem dX10_correctsHeel_110 : decode cX10_correctsHeel 110 = .ok (.invokevirtual 126, 3) := by decide +kernel
theorem dX10_correctsHeel_113 : decode cX10_correctsHeel 113 = .ok (.invokevirtual 89, 3) := by decide +kernel
theorem dX10_correctsHeel_116 : decode cX10_correctsHeel 116 = .ok (.ifCond .eq 5, 3) := by decide +kernel
theorem dX10_correctsHeel_119 : decode cX10_correctsHeel 119 = .ok (.iconst 3, 1) := by decide +kernel
theorem dX10_correctsHeel_120 : decode cX10_correctsHeel 120 = .ok (.ireturn, 1) := by decide +kernel
theorem dX10_correctsHeel_121 : decode cX10_correctsHeel 121 = .ok (.aload_n 0, 1) := by decide +kernel
theorem dX10_correctsHeel_122 : decode cX10_correctsHeel 122 = .ok (.iload 4, 2) := by decide +kernel
theorem dX10_correctsHeel_124 : decode cX10_correctsHeel 124 = .ok (.iconst 3, 1) := by decide +kernel
theorem dX10_correctsHeel_125 : decode cX10_correctsHeel 125 = .ok (.iload_n 2, 1) := by decide +kernel
theorem dX10_correctsHeel_126 : decode cX10_correctsHeel 126 = .ok (.invokevirtual 103, 3) := by decide +kernel
theorem dX10_correctsHeel_129 : decode cX10_correctsHeel 129 = .ok (.aload_n 0, 1) := by decide +kernel
theorem dX10_correctsHeel_130 : decode cX10_correctsHeel 130 = .ok (.iload 4, 2) := by decide +kernel
theorem dX10_correctsHeel_132 : decode cX10_correctsHeel 132 = .ok (.iconst 4, 1) := by decide +kernel
theorem dX10_correctsHeel_133 : decode cX10_correctsHeel 133 = .ok (.iload_n 3, 1) := by decide +kernel
theorem dX10_correctsHeel_134 : decode cX10_correctsHeel 134 = .ok (.invokevirtual 103, 3) := by decide +kernel
theorem dX10_correctsHeel_137 : decode cX10_correctsHeel 137 = .ok (.aload_n 0, 1) := by decide +kernel
theorem dX10_correctsHeel_138 : decode cX10_correctsHeel 138 = .ok (.getfield 9, 3) := by decide +kernel
theorem dX10_correctsHeel_141 : decode cX10_correctsHeel 141 = .ok (.bipush 6, 2) := by decide +kernel
theorem dX10_correctsHeel_143 : decode cX10_correctsHeel 143 = .ok (.dup2, 1) := by decide +kernel
theorem dX10_correctsHeel_144 : decode cX10_correctsHeel 144 = .ok (.iaload, 1) := by decide +kernel
theorem dX10_correctsHeel_145 : decode cX10_correctsHeel 145 = .ok (.iconst 1, 1) := by decide +kernel
theorem dX10_correctsHeel_146 : decode cX10_correctsHeel 146 = .ok (.iadd, 1) := by decide +kernel
theorem dX10_correctsHeel_147 : decode cX10_correctsHeel 147 = .ok (.iastore, 1) := by decide +kernel
theorem dX10_correctsHeel_148 : decode cX10_correctsHeel 148 = .ok (.aload_n 0, 1) := by decide +kernel
theorem dX10_correctsHeel_149 : decode cX10_correctsHeel 149 = .ok (.iload 5, 2) := by decide +kernel
theorem dX10_correctsHeel_151 : decode cX10_correctsHeel 151 = .ok (.putfield 37, 3) := by decide +kernel
theorem dX10_correctsHeel_154 : decode cX10_correctsHeel 154 = .ok (.iconst 0, 1) := by decide +kernel
theorem dX10_correctsHeel_155 : decode cX10_correctsHeel 155 = .ok (.ireturn, 1) := by decide +kernel
set_option maxRecDepth 20000 in
theorem ggX10_correctHeel_X10_begins : GoodIn wsX10_correctHeel wsX10_begins := goodIn_ca (goodIn_r _ [5, 6, 7, 8, 4, 9, 10, 62, 63, 64, 65, 66, 67, 68, 69, 70, 71, 72, 73, 74, 75, 76, 77, 78, 79] (by decide +kernel) (by decide +kernel)) (goodIn_sub (fun _ h => List.mem_cons_of_mem _ (List.mem_append_right _ h)) (by decide +kernel))
set_option maxRecDepth 20000 in
theorem gX10_correctHeel_X10_begins : GoodIn wsX10_correctHeel (wsV RX10 93 RX10 yX10_begins wsX10_begins) := goodIn_app (goodIn_of _ (by decide +kernel)) ggX10_correctHeel_X10_begins
set_option maxRecDepth 20000 in
theorem ggX10_correctHeel_X10_correctsHeel : GoodIn wsX10_correctHeel wsX10_correctsHeel := goodIn_ca (goodIn_r _ [14, 10, 15, 16, 17, 18, 4, 19, 20, 21, 22, 23, 24, 25, 26, 27, 28, 29, 30, 31, 32, 33, 34, 35, 36, 37, 38, 39, 40, 41, 42, 43, 44, 45, 46, 47, 48, 49, 50, 51, 52, 53, 54, 55, 62, 63, 64, 65, 66, 67, 68, 69, 70, 71, 72, 73, 74, 75, 76, 77, 78, 79] (by decide +kernel) (by decide +kernel)) (goodIn_sub (fun _ h => List.mem_cons_of_mem _ (List.mem_append_right _ h)) (by decide +kernel))
set_option maxRecDepth 20000 in
theorem gX10_correctHeel_X10_correctsHeel : GoodIn wsX10_correctHeel (wsV RX10 142 RX10 yX10_correctsHeel wsX10_correctsHeel) := goodIn_app (goodIn_of _ (by decide +kernel)) ggX10_correctHeel_X10_correctsHeel
set_option maxRecDepth 20000 in
theorem ggX10_correctHeel_X10_ends : GoodIn wsX10_correctHeel wsX10_ends := goodIn_ca (goodIn_r _ [59, 60, 61, 15, 6, 7, 8, 4, 9, 10, 62, 63, 64, 65, 66, 67, 68, 69, 70, 71, 72, 73, 74, 75, 76, 77, 78, 79] (by decide +kernel) (by decide +kernel)) (goodIn_sub (fun _ h => List.mem_cons_of_mem _ (List.mem_append_right _ h)) (by decide +kernel))
set_option maxRecDepth 20000 in
theorem gX10_correctHeel_X10_ends : GoodIn wsX10_correctHeel (wsV RX10 99 RX10 yX10_ends wsX10_ends) := goodIn_app (goodIn_of _ (by decide +kernel)) ggX10_correctHeel_X10_ends
theorem dX10_correctHeel_0 : decode cX10_correctHeel 0 = .ok (.aload_n 0, 1) := by decide +kernel
theorem dX10_correctHeel_1 : decode cX10_correctHeel 1 = .ok (.invokevirtual 93, 3) := by decide +kernel
theorem dX10_correctHeel_4 : decode cX10_correctHeel 4 = .ok (.aload_n 0, 1) := by decide +kernel
theorem dX10_correctHeel_5 : decode cX10_correctHeel 5 = .ok (.aload_n 0, 1) := by decide +kernel
theorem dX10_correctHeel_6 : decode cX10_correctHeel 6 = .ok (.iload_n 1, 1) := by decide +kernel
theorem dX10_correctHeel_7 : decode cX10_correctHeel 7 = .ok (.iload_n 2, 1) := by decide +kernel
theorem dX10_correctHeel_8 : decode cX10_correctHeel 8 = .ok (.iload_n 3, 1) := by decide +kernel
theorem dX10_correctHeel_9 : decode cX10_correctHeel 9 = .ok (.invokevirtual 142, 3) := by decide +kernel
theorem dX10_correctHeel_12 : decode cX10_correctHeel 12 = .ok (.iconst 1, 1) := by decide +kernel
theorem dX10_correctHeel_13 : decode cX10_correctHeel 13 = .ok (.iconst 0, 1) := by decide +kernel
theorem dX10_correctHeel_14 : decode cX10_correctHeel 14 = .ok (.iconst 2, 1) := by decide +kernel
theorem dX10_correctHeel_15 : decode cX10_correctHeel 15 = .ok (.invokevirtual 99, 3) := by decide +kernel
theorem dX10_correctHeel_18 : decode cX10_correctHeel 18 = .ok (.ireturn, 1) := by decide +kernel
set_option maxRecDepth 20000 in
theorem ggX10_swapsFoot_X10_find : GoodIn wsX10_swapsFoot wsX10_find := goodIn_ca (goodIn_r _ [6, 7, 8, 9, 10, 5, 11, 16, 17, 18, 19, 20, 21, 22, 23, 24, 25, 26, 27, 28, 29, 30, 31, 32, 33] (by decide +kernel) (by decide +kernel)) (goodIn_sub (fun _ h => List.mem_cons_of_mem _ (List.mem_append_right _ h)) (by decide +kernel))
set_option maxRecDepth 20000 in
theorem gX10_swapsFoot_X10_find : GoodIn wsX10_swapsFoot (wsV RX10 136 RX10 yX10_find wsX10_find) := goodIn_app (goodIn_of _ (by decide +kernel)) ggX10_swapsFoot_X10_find
set_option maxRecDepth 20000 in
theorem ggX10_swapsFoot_X10_p : GoodIn wsX10_swapsFoot wsX10_p := goodIn_ca (goodIn_r _ [11, 7, 16, 17, 18, 19, 20, 21, 22, 23, 24, 25, 26, 27, 28, 29, 30, 31, 32, 33] (by decide +kernel) (by decide +kernel)) (goodIn_sub (fun _ h => List.mem_cons_of_mem _ (List.mem_append_right _ h)) (by decide +kernel))
set_option maxRecDepth 20000 in
theorem gX10_swapsFoot_X10_p : GoodIn wsX10_swapsFoot (wsV RX10 56 RX10 yX10_p wsX10_p) := goodIn_app (goodIn_of _ (by decide +kernel)) ggX10_swapsFoot_X10_p
set_option maxRecDepth 20000 in
theorem ggX10_swapsFoot_X10_set : GoodIn wsX10_swapsFoot wsX10_set := goodIn_ca (goodIn_r _ [15, 7, 16, 17, 18, 19, 20, 21, 22, 23, 24, 25, 26, 27, 28, 29, 30, 31, 32, 33] (by decide +kernel) (by decide +kernel)) (goodIn_sub (fun _ h => List.mem_cons_of_mem _ (List.mem_append_right _ h)) (by decide +kernel))
set_option maxRecDepth 20000 in
theorem gX10_swapsFoot_X10_set : GoodIn wsX10_swapsFoot (wsV RX10 103 RX10 yX10_set wsX10_set) := goodIn_app (goodIn_of _ (by decide +kernel)) ggX10_swapsFoot_X10_set
theorem dX10_swapsFoot_0 : decode cX10_swapsFoot 0 = .ok (.aload_n 0, 1) := by decide +kernel
theorem dX10_swapsFoot_1 : decode cX10_swapsFoot 1 = .ok (.iload_n 1, 1) := by decide +kernel
theorem dX10_swapsFoot_2 : decode cX10_swapsFoot 2 = .ok (.invokevirtual 136, 3) := by decide +kernel
theorem dX10_swapsFoot_5 : decode cX10_swapsFoot 5 = .ok (.istore_n 2, 1) := by decide +kernel
theorem dX10_swapsFoot_6 : decode cX10_swapsFoot 6 = .ok (.iload_n 2, 1) := by decide +kernel
theorem dX10_swapsFoot_7 : decode cX10_swapsFoot 7 = .ok (.ifCond .ge 5, 3) := by decide +kernel
theorem dX10_swapsFoot_10 : decode cX10_swapsFoot 10 = .ok (.iconst 1, 1) := by decide +kernel
theorem dX10_swapsFoot_11 : decode cX10_swapsFoot 11 = .ok (.ireturn, 1) := by decide +kernel
theorem dX10_swapsFoot_12 : decode cX10_swapsFoot 12 = .ok (.aload_n 0, 1) := by decide +kernel
theorem dX10_swapsFoot_13 : decode cX10_swapsFoot 13 = .ok (.iconst 1, 1) := by decide +kernel
theorem dX10_swapsFoot_14 : decode cX10_swapsFoot 14 = .ok (.aload_n 0, 1) := by decide +kernel
theorem dX10_swapsFoot_15 : decode cX10_swapsFoot 15 = .ok (.iload_n 2, 1) := by decide +kernel
theorem dX10_swapsFoot_16 : decode cX10_swapsFoot 16 = .ok (.iconst 5, 1) := by decide +kernel
theorem dX10_swapsFoot_17 : decode cX10_swapsFoot 17 = .ok (.invokevirtual 56, 3) := by decide +kernel
theorem dX10_swapsFoot_20 : decode cX10_swapsFoot 20 = .ok (.isub, 1) := by decide +kernel
theorem dX10_swapsFoot_21 : decode cX10_swapsFoot 21 = .ok (.putfield 37, 3) := by decide +kernel
theorem dX10_swapsFoot_24 : decode cX10_swapsFoot 24 = .ok (.aload_n 0, 1) := by decide +kernel
theorem dX10_swapsFoot_25 : decode cX10_swapsFoot 25 = .ok (.iload_n 2, 1) := by decide +kernel
theorem dX10_swapsFoot_26 : decode cX10_swapsFoot 26 = .ok (.iconst 5, 1) := by decide +kernel
theorem dX10_swapsFoot_27 : decode cX10_swapsFoot 27 = .ok (.aload_n 0, 1) := by decide +kernel
theorem dX10_swapsFoot_28 : decode cX10_swapsFoot 28 = .ok (.getfield 37, 3) := by decide +kernel
theorem dX10_swapsFoot_31 : decode cX10_swapsFoot 31 = .ok (.invokevirtual 103, 3) := by decide +kernel
theorem dX10_swapsFoot_34 : decode cX10_swapsFoot 34 = .ok (.iconst 0, 1) := by decide +kernel
theorem dX10_swapsFoot_35 : decode cX10_swapsFoot 35 = .ok (.ireturn, 1) := by decide +kernel
set_option maxRecDepth 20000 in
theorem ggX10_swapFoot_X10_begins : GoodIn wsX10_swapFoot wsX10_begins := goodIn_ca (goodIn_r _ [5, 6, 7, 8, 4, 9, 10, 34, 35, 36, 37, 38, 39, 40, 41, 42, 43, 44, 45, 46, 47, 48, 49, 50, 51] (by decide +kernel) (by decide +kernel)) (goodIn_sub (fun _ h => List.mem_cons_of_mem _ (List.mem_append_right _ h)) (by decide +kernel))
set_option maxRecDepth 20000 in
theorem gX10_swapFoot_X10_begins : GoodIn wsX10_swapFoot (wsV RX10 93 RX10 yX10_begins wsX10_begins) := goodIn_app (goodIn_of _ (by decide +kernel)) ggX10_swapFoot_X10_begins
set_option maxRecDepth 20000 in
theorem ggX10_swapFoot_X10_swapsFoot : GoodIn wsX10_swapFoot wsX10_swapsFoot := goodIn_ca (goodIn_r _ [14, 15, 16, 17, 18, 4, 19, 10, 20, 21, 22, 23, 24, 25, 26, 27, 34, 35, 36, 37, 38, 39, 40, 41, 42, 43, 44, 45, 46, 47, 48, 49, 50, 51] (by decide +kernel) (by decide +kernel)) (goodIn_sub (fun _ h => List.mem_cons_of_mem _ (List.mem_append_right _ h)) (by decide +kernel))
set_option maxRecDepth 20000 in
theorem gX10_swapFoot_X10_swapsFoot : GoodIn wsX10_swapFoot (wsV RX10 145 RX10 yX10_swapsFoot wsX10_swapsFoot) := goodIn_app (goodIn_of _ (by decide +kernel)) ggX10_swapFoot_X10_swapsFoot
set_option maxRecDepth 20000 in
theorem ggX10_swapFoot_X10_ends : GoodIn wsX10_swapFoot wsX10_ends := goodIn_ca (goodIn_r _ [31, 32, 33, 15, 6, 7, 8, 4, 9, 10, 34, 35, 36, 37, 38, 39, 40, 41, 42, 43, 44, 45, 46, 47, 48, 49, 50, 51] (by decide +kernel) (by decide +kernel)) (goodIn_sub (fun _ h => List.mem_cons_of_mem _ (List.mem_append_right _ h)) (by decide +kernel))
set_option maxRecDepth 20000 in
theorem gX10_swapFoot_X10_ends : GoodIn wsX10_swapFoot (wsV RX10 99 RX10 yX10_ends wsX10_ends) := goodIn_app (goodIn_of _ (by decide +kernel)) ggX10_swapFoot_X10_ends
theorem dX10_swapFoot_0 : decode cX10_swapFoot 0 = .ok (.aload_n 0, 1) := by decide +kernel
theorem dX10_swapFoot_1 : decode cX10_swapFoot 1 = .ok (.invokevirtual 93, 3) := by decide +kernel
theorem dX10_swapFoot_4 : decode cX10_swapFoot 4 = .ok (.aload_n 0, 1) := by decide +kernel
theorem dX10_swapFoot_5 : decode cX10_swapFoot 5 = .ok (.aload_n 0, 1) := by decide +kernel
theorem dX10_swapFoot_6 : decode cX10_swapFoot 6 = .ok (.iload_n 1, 1) := by decide +kernel
theorem dX10_swapFoot_7 : decode cX10_swapFoot 7 = .ok (.invokevirtual 145, 3) := by decide +kernel
theorem dX10_swapFoot_10 : decode cX10_swapFoot 10 = .ok (.iconst 1, 1) := by decide +kernel
theorem dX10_swapFoot_11 : decode cX10_swapFoot 11 = .ok (.iconst 0, 1) := by decide +kernel
theorem dX10_swapFoot_12 : decode cX10_swapFoot 12 = .ok (.iconst 0, 1) := by decide +kernel
theorem dX10_swapFoot_13 : decode cX10_swapFoot 13 = .ok (.invokevirtual 99, 3) := by decide +kernel
theorem dX10_swapFoot_16 : decode cX10_swapFoot 16 = .ok (.iconst 1, 1) := by decide +kernel
theorem dX10_swapFoot_17 : decode cX10_swapFoot 17 = .ok (.if_icmp .ne 7, 3) := by decide +kernel
theorem dX10_swapFoot_20 : decode cX10_swapFoot 20 = .ok (.iconst 1, 1) := by decide +kernel
theorem dX10_swapFoot_21 : decode cX10_swapFoot 21 = .ok (.goto 4, 3) := by decide +kernel
theorem dX10_swapFoot_24 : decode cX10_swapFoot 24 = .ok (.iconst 0, 1) := by decide +kernel
theorem dX10_swapFoot_25 : decode cX10_swapFoot 25 = .ok (.ireturn, 1) := by decide +kernel
set_option maxRecDepth 20000 in
theorem ggX10_doubts_X10_find : GoodIn wsX10_doubts wsX10_find := goodIn_ca (goodIn_r _ [6, 7, 8, 9, 10, 5, 11, 23, 24, 25, 26, 27, 28, 29, 30, 31, 32, 33, 34, 35, 36, 37, 38, 39, 40] (by decide +kernel) (by decide +kernel)) (goodIn_sub (fun _ h => List.mem_cons_of_mem _ (List.mem_append_right _ h)) (by decide +kernel))
set_option maxRecDepth 20000 in
theorem gX10_doubts_X10_find : GoodIn wsX10_doubts (wsV RX10 136 RX10 yX10_find wsX10_find) := goodIn_app (goodIn_of _ (by decide +kernel)) ggX10_doubts_X10_find
set_option maxRecDepth 20000 in
theorem ggX10_doubts_X10_p : GoodIn wsX10_doubts wsX10_p := goodIn_ca (goodIn_r _ [11, 7, 23, 24, 25, 26, 27, 28, 29, 30, 31, 32, 33, 34, 35, 36, 37, 38, 39, 40] (by decide +kernel) (by decide +kernel)) (goodIn_sub (fun _ h => List.mem_cons_of_mem _ (List.mem_append_right _ h)) (by decide +kernel))
set_option maxRecDepth 20000 in
theorem gX10_doubts_X10_p : GoodIn wsX10_doubts (wsV RX10 56 RX10 yX10_p wsX10_p) := goodIn_app (goodIn_of _ (by decide +kernel)) ggX10_doubts_X10_p
set_option maxRecDepth 20000 in
theorem ggX10_doubts_X10_rejects : GoodIn wsX10_doubts wsX10_rejects := goodIn_r _ [15, 16, 17, 18, 23, 24, 25, 26, 27, 28, 29, 30, 31, 32, 33, 34, 35, 36, 37, 38, 39, 40] (by decide +kernel) (by decide +kernel)
set_option maxRecDepth 20000 in
theorem gX10_doubts_X10_rejects : GoodIn wsX10_doubts (wsV RX10 89 RX10 yX10_rejects wsX10_rejects) := goodIn_app (goodIn_of _ (by decide +kernel)) ggX10_doubts_X10_rejects
set_option maxRecDepth 20000 in
theorem ggX10_doubts_X10_set : GoodIn wsX10_doubts wsX10_set := goodIn_ca (goodIn_r _ [22, 7, 23, 24, 25, 26, 27, 28, 29, 30, 31, 32, 33, 34, 35, 36, 37, 38, 39, 40] (by decide +kernel) (by decide +kernel)) (goodIn_sub (fun _ h => List.mem_cons_of_mem _ (List.mem_append_right _ h)) (by decide +kernel))
set_option maxRecDepth 20000 in
theorem gX10_doubts_X10_set : GoodIn wsX10_doubts (wsV RX10 103 RX10 yX10_set wsX10_set) := goodIn_app (goodIn_of _ (by decide +kernel)) ggX10_doubts_X10_set
theorem dX10_doubts_0 : decode cX10_doubts 0 = .ok (.aload_n 0, 1) := by decide +kernel
theorem dX10_doubts_1 : decode cX10_doubts 1 = .ok (.iload_n 1, 1) := by decide +kernel
theorem dX10_doubts_2 : decode cX10_doubts 2 = .ok (.invokevirtual 136, 3) := by decide +kernel
theorem dX10_doubts_5 : decode cX10_doubts 5 = .ok (.istore_n 2, 1) := by decide +kernel
theorem dX10_doubts_6 : decode cX10_doubts 6 = .ok (.iload_n 2, 1) := by decide +kernel
theorem dX10_doubts_7 : decode cX10_doubts 7 = .ok (.ifCond .ge 5, 3) := by decide +kernel
theorem dX10_doubts_10 : decode cX10_doubts 10 = .ok (.iconst 1, 1) := by decide +kernel
theorem dX10_doubts_11 : decode cX10_doubts 11 = .ok (.ireturn, 1) := by decide +kernel
theorem dX10_doubts_12 : decode cX10_doubts 12 = .ok (.aload_n 0, 1) := by decide +kernel
theorem dX10_doubts_13 : decode cX10_doubts 13 = .ok (.aload_n 0, 1) := by decide +kernel
theorem dX10_doubts_14 : decode cX10_doubts 14 = .ok (.iload_n 2, 1) := by decide +kernel
theorem dX10_doubts_15 : decode cX10_doubts 15 = .ok (.bipush 7, 2) := by decide +kernel
theorem dX10_doubts_17 : decode cX10_doubts 17 = .ok (.invokevirtual 56, 3) := by decide +kernel
theorem dX10_doubts_20 : decode cX10_doubts 20 = .ok (.iconst 3, 1) := by decide +kernel
theorem dX10_doubts_21 : decode cX10_doubts 21 = .ok (.if_icmp .ne 7, 3) := by decide +kernel
theorem dX10_doubts_24 : decode cX10_doubts 24 = .ok (.iconst 1, 1) := by decide +kernel
theorem dX10_doubts_25 : decode cX10_doubts 25 = .ok (.goto 4, 3) := by decide +kernel
theorem dX10_doubts_28 : decode cX10_doubts 28 = .ok (.iconst 0, 1) := by decide +kernel
theorem dX10_doubts_29 : decode cX10_doubts 29 = .ok (.bipush 7, 2) := by decide +kernel
theorem dX10_doubts_31 : decode cX10_doubts 31 = .ok (.iconst 3, 1) := by decide +kernel
theorem dX10_doubts_32 : decode cX10_doubts 32 = .ok (.invokevirtual 89, 3) := by decide +kernel
theorem dX10_doubts_35 : decode cX10_doubts 35 = .ok (.ifCond .eq 5, 3) := by decide +kernel
theorem dX10_doubts_38 : decode cX10_doubts 38 = .ok (.iconst 3, 1) := by decide +kernel
theorem dX10_doubts_39 : decode cX10_doubts 39 = .ok (.ireturn, 1) := by decide +kernel
theorem dX10_doubts_40 : decode cX10_doubts 40 = .ok (.aload_n 0, 1) := by decide +kernel
theorem dX10_doubts_41 : decode cX10_doubts 41 = .ok (.aload_n 0, 1) := by decide +kernel
theorem dX10_doubts_42 : decode cX10_doubts 42 = .ok (.iload_n 2, 1) := by decide +kernel
theorem dX10_doubts_43 : decode cX10_doubts 43 = .ok (.bipush 7, 2) := by decide +kernel
theorem dX10_doubts_45 : decode cX10_doubts 45 = .ok (.invokevirtual 56, 3) := by decide +kernel
theorem dX10_doubts_48 : decode cX10_doubts 48 = .ok (.iconst 1, 1) := by decide +kernel
theorem dX10_doubts_49 : decode cX10_doubts 49 = .ok (.iadd, 1) := by decide +kernel
theorem dX10_doubts_50 : decode cX10_doubts 50 = .ok (.putfield 37, 3) := by decide +kernel
theorem dX10_doubts_53 : decode cX10_doubts 53 = .ok (.aload_n 0, 1) := by decide +kernel
theorem dX10_doubts_54 : decode cX10_doubts 54 = .ok (.iload_n 2, 1) := by decide +kernel
theorem dX10_doubts_55 : decode cX10_doubts 55 = .ok (.bipush 7, 2) := by decide +kernel
theorem dX10_doubts_57 : decode cX10_doubts 57 = .ok (.aload_n 0, 1) := by decide +kernel
theorem dX10_doubts_58 : decode cX10_doubts 58 = .ok (.getfield 37, 3) := by decide +kernel
theorem dX10_doubts_61 : decode cX10_doubts 61 = .ok (.invokevirtual 103, 3) := by decide +kernel
theorem dX10_doubts_64 : decode cX10_doubts 64 = .ok (.iconst 0, 1) := by decide +kernel
theorem dX10_doubts_65 : decode cX10_doubts 65 = .ok (.ireturn, 1) := by decide +kernel
set_option maxRecDepth 20000 in
theorem ggX10_doubtToes_X10_begins : GoodIn wsX10_doubtToes wsX10_begins := goodIn_ca (goodIn_r _ [5, 6, 7, 8, 4, 9, 10, 41, 42, 43, 44, 45, 46, 47, 48, 49, 50, 51, 52, 53, 54, 55, 56, 57, 58] (by decide +kernel) (by decide +kernel)) (goodIn_sub (fun _ h => List.mem_cons_of_mem _ (List.mem_append_right _ h)) (by decide +kernel))
set_option maxRecDepth 20000 in
theorem gX10_doubtToes_X10_begins : GoodIn wsX10_doubtToes (wsV RX10 93 RX10 yX10_begins wsX10_begins) := goodIn_app (goodIn_of _ (by decide +kernel)) ggX10_doubtToes_X10_begins
set_option maxRecDepth 20000 in
theorem ggX10_doubtToes_X10_doubts : GoodIn wsX10_doubtToes wsX10_doubts := goodIn_ca (goodIn_r _ [14, 15, 16, 17, 18, 4, 19, 10, 20, 21, 22, 23, 24, 25, 26, 27, 28, 29, 30, 31, 32, 33, 34, 41, 42, 43, 44, 45, 46, 47, 48, 49, 50, 51, 52, 53, 54, 55, 56, 57, 58] (by decide +kernel) (by decide +kernel)) (goodIn_sub (fun _ h => List.mem_cons_of_mem _ (List.mem_append_right _ h)) (by decide +kernel))
set_option maxRecDepth 20000 in
theorem gX10_doubtToes_X10_doubts : GoodIn wsX10_doubtToes (wsV RX10 148 RX10 yX10_doubts wsX10_doubts) := goodIn_app (goodIn_of _ (by decide +kernel)) ggX10_doubtToes_X10_doubts
set_option maxRecDepth 20000 in
theorem ggX10_doubtToes_X10_ends : GoodIn wsX10_doubtToes wsX10_ends := goodIn_ca (goodIn_r _ [38, 39, 40, 15, 6, 7, 8, 4, 9, 10, 41, 42, 43, 44, 45, 46, 47, 48, 49, 50, 51, 52, 53, 54, 55, 56, 57, 58] (by decide +kernel) (by decide +kernel)) (goodIn_sub (fun _ h => List.mem_cons_of_mem _ (List.mem_append_right _ h)) (by decide +kernel))
set_option maxRecDepth 20000 in
theorem gX10_doubtToes_X10_ends : GoodIn wsX10_doubtToes (wsV RX10 99 RX10 yX10_ends wsX10_ends) := goodIn_app (goodIn_of _ (by decide +kernel)) ggX10_doubtToes_X10_ends
theorem dX10_doubtToes_0 : decode cX10_doubtToes 0 = .ok (.aload_n 0, 1) := by decide +kernel
theorem dX10_doubtToes_1 : decode cX10_doubtToes 1 = .ok (.invokevirtual 93, 3) := by decide +kernel
theorem dX10_doubtToes_4 : decode cX10_doubtToes 4 = .ok (.aload_n 0, 1) := by decide +kernel
theorem dX10_doubtToes_5 : decode cX10_doubtToes 5 = .ok (.aload_n 0, 1) := by decide +kernel
theorem dX10_doubtToes_6 : decode cX10_doubtToes 6 = .ok (.iload_n 1, 1) := by decide +kernel
theorem dX10_doubtToes_7 : decode cX10_doubtToes 7 = .ok (.invokevirtual 148, 3) := by decide +kernel
theorem dX10_doubtToes_10 : decode cX10_doubtToes 10 = .ok (.iconst 1, 1) := by decide +kernel
theorem dX10_doubtToes_11 : decode cX10_doubtToes 11 = .ok (.iconst 0, 1) := by decide +kernel
theorem dX10_doubtToes_12 : decode cX10_doubtToes 12 = .ok (.iconst 2, 1) := by decide +kernel
theorem dX10_doubtToes_13 : decode cX10_doubtToes 13 = .ok (.invokevirtual 99, 3) := by decide +kernel
theorem dX10_doubtToes_16 : decode cX10_doubtToes 16 = .ok (.ireturn, 1) := by decide +kernel
set_option maxRecDepth 20000 in
theorem ggX10_confirms_X10_find : GoodIn wsX10_confirms wsX10_find := goodIn_ca (goodIn_r _ [6, 7, 8, 9, 10, 5, 11, 23, 24, 25, 26, 27, 28, 29, 30, 31, 32, 33, 34, 35, 36, 37, 38, 39, 40] (by decide +kernel) (by decide +kernel)) (goodIn_sub (fun _ h => List.mem_cons_of_mem _ (List.mem_append_right _ h)) (by decide +kernel))
set_option maxRecDepth 20000 in
theorem gX10_confirms_X10_find : GoodIn wsX10_confirms (wsV RX10 136 RX10 yX10_find wsX10_find) := goodIn_app (goodIn_of _ (by decide +kernel)) ggX10_confirms_X10_find
set_option maxRecDepth 20000 in
theorem ggX10_confirms_X10_p : GoodIn wsX10_confirms wsX10_p := goodIn_ca (goodIn_r _ [11, 7, 23, 24, 25, 26, 27, 28, 29, 30, 31, 32, 33, 34, 35, 36, 37, 38, 39, 40] (by decide +kernel) (by decide +kernel)) (goodIn_sub (fun _ h => List.mem_cons_of_mem _ (List.mem_append_right _ h)) (by decide +kernel))
set_option maxRecDepth 20000 in
theorem gX10_confirms_X10_p : GoodIn wsX10_confirms (wsV RX10 56 RX10 yX10_p wsX10_p) := goodIn_app (goodIn_of _ (by decide +kernel)) ggX10_confirms_X10_p
set_option maxRecDepth 20000 in
theorem ggX10_confirms_X10_rejects : GoodIn wsX10_confirms wsX10_rejects := goodIn_r _ [15, 16, 17, 18, 23, 24, 25, 26, 27, 28, 29, 30, 31, 32, 33, 34, 35, 36, 37, 38, 39, 40] (by decide +kernel) (by decide +kernel)
set_option maxRecDepth 20000 in
theorem gX10_confirms_X10_rejects : GoodIn wsX10_confirms (wsV RX10 89 RX10 yX10_rejects wsX10_rejects) := goodIn_app (goodIn_of _ (by decide +kernel)) ggX10_confirms_X10_rejects
set_option maxRecDepth 20000 in
theorem ggX10_confirms_X10_set : GoodIn wsX10_confirms wsX10_set := goodIn_ca (goodIn_r _ [22, 7, 23, 24, 25, 26, 27, 28, 29, 30, 31, 32, 33, 34, 35, 36, 37, 38, 39, 40] (by decide +kernel) (by decide +kernel)) (goodIn_sub (fun _ h => List.mem_cons_of_mem _ (List.mem_append_right _ h)) (by decide +kernel))
set_option maxRecDepth 20000 in
theorem gX10_confirms_X10_set : GoodIn wsX10_confirms (wsV RX10 103 RX10 yX10_set wsX10_set) := goodIn_app (goodIn_of _ (by decide +kernel)) ggX10_confirms_X10_set
theorem dX10_confirms_0 : decode cX10_confirms 0 = .ok (.aload_n 0, 1) := by decide +kernel
theorem dX10_confirms_1 : decode cX10_confirms 1 = .ok (.iload_n 1, 1) := by decide +kernel
theorem dX10_confirms_2 : decode cX10_confirms 2 = .ok (.invokevirtual 136, 3) := by decide +kernel
theorem dX10_confirms_5 : decode cX10_confirms 5 = .ok (.istore_n 2, 1) := by decide +kernel
theorem dX10_confirms_6 : decode cX10_confirms 6 = .ok (.iload_n 2, 1) := by decide +kernel
theorem dX10_confirms_7 : decode cX10_confirms 7 = .ok (.ifCond .ge 5, 3) := by decide +kernel
theorem dX10_confirms_10 : decode cX10_confirms 10 = .ok (.iconst 1, 1) := by decide +kernel
theorem dX10_confirms_11 : decode cX10_confirms 11 = .ok (.ireturn, 1) := by decide +kernel
theorem dX10_confirms_12 : decode cX10_confirms 12 = .ok (.aload_n 0, 1) := by decide +kernel
theorem dX10_confirms_13 : decode cX10_confirms 13 = .ok (.aload_n 0, 1) := by decide +kernel
theorem dX10_confirms_14 : decode cX10_confirms 14 = .ok (.iload_n 2, 1) := by decide +kernel
theorem dX10_confirms_15 : decode cX10_confirms 15 = .ok (.bipush 7, 2) := by decide +kernel
theorem dX10_confirms_17 : decode cX10_confirms 17 = .ok (.invokevirtual 56, 3) := by decide +kernel
theorem dX10_confirms_20 : decode cX10_confirms 20 = .ok (.putfield 37, 3) := by decide +kernel
theorem dX10_confirms_23 : decode cX10_confirms 23 = .ok (.aload_n 0, 1) := by decide +kernel
theorem dX10_confirms_24 : decode cX10_confirms 24 = .ok (.aload_n 0, 1) := by decide +kernel
theorem dX10_confirms_25 : decode cX10_confirms 25 = .ok (.getfield 37, 3) := by decide +kernel
theorem dX10_confirms_28 : decode cX10_confirms 28 = .ok (.ifCond .ne 7, 3) := by decide +kernel
theorem dX10_confirms_31 : decode cX10_confirms 31 = .ok (.iconst 1, 1) := by decide +kernel
theorem dX10_confirms_32 : decode cX10_confirms 32 = .ok (.goto 4, 3) := by decide +kernel
theorem dX10_confirms_35 : decode cX10_confirms 35 = .ok (.iconst 0, 1) := by decide +kernel
theorem dX10_confirms_36 : decode cX10_confirms 36 = .ok (.bipush 8, 2) := by decide +kernel
theorem dX10_confirms_38 : decode cX10_confirms 38 = .ok (.iconst 0, 1) := by decide +kernel
theorem dX10_confirms_39 : decode cX10_confirms 39 = .ok (.invokevirtual 89, 3) := by decide +kernel
theorem dX10_confirms_42 : decode cX10_confirms 42 = .ok (.ifCond .eq 5, 3) := by decide +kernel
theorem dX10_confirms_45 : decode cX10_confirms 45 = .ok (.iconst 3, 1) := by decide +kernel
theorem dX10_confirms_46 : decode cX10_confirms 46 = .ok (.ireturn, 1) := by decide +kernel
theorem dX10_confirms_47 : decode cX10_confirms 47 = .ok (.aload_n 0, 1) := by decide +kernel
theorem dX10_confirms_48 : decode cX10_confirms 48 = .ok (.iload_n 2, 1) := by decide +kernel
theorem dX10_confirms_49 : decode cX10_confirms 49 = .ok (.bipush 7, 2) := by decide +kernel
theorem dX10_confirms_51 : decode cX10_confirms 51 = .ok (.iconst 0, 1) := by decide +kernel
theorem dX10_confirms_52 : decode cX10_confirms 52 = .ok (.invokevirtual 103, 3) := by decide +kernel
theorem dX10_confirms_55 : decode cX10_confirms 55 = .ok (.iconst 0, 1) := by decide +kernel
theorem dX10_confirms_56 : decode cX10_confirms 56 = .ok (.ireturn, 1) := by decide +kernel
set_option maxRecDepth 20000 in
theorem ggX10_confirmToes_X10_begins : GoodIn wsX10_confirmToes wsX10_begins := goodIn_ca (goodIn_r _ [5, 6, 7, 8, 4, 9, 10, 41, 42, 43, 44, 45, 46, 47, 48, 49, 50, 51, 52, 53, 54, 55, 56, 57, 58] (by decide +kernel) (by decide +kernel)) (goodIn_sub (fun _ h => List.mem_cons_of_mem _ (List.mem_append_right _ h)) (by decide +kernel))
set_option maxRecDepth 20000 in
theorem gX10_confirmToes_X10_begins : GoodIn wsX10_confirmToes (wsV RX10 93 RX10 yX10_begins wsX10_begins) := goodIn_app (goodIn_of _ (by decide +kernel)) ggX10_confirmToes_X10_begins
set_option maxRecDepth 20000 in
theorem ggX10_confirmToes_X10_confirms : GoodIn wsX10_confirmToes wsX10_confirms := goodIn_ca (goodIn_r _ [14, 15, 16, 17, 18, 4, 19, 10, 20, 21, 22, 23, 24, 25, 26, 27, 28, 29, 30, 31, 32, 33, 34, 41, 42, 43, 44, 45, 46, 47, 48, 49, 50, 51, 52, 53, 54, 55, 56, 57, 58] (by decide +kernel) (by decide +kernel)) (goodIn_sub (fun _ h => List.mem_cons_of_mem _ (List.mem_append_right _ h)) (by decide +kernel))
set_option maxRecDepth 20000 in
theorem gX10_confirmToes_X10_confirms : GoodIn wsX10_confirmToes (wsV RX10 151 RX10 yX10_confirms wsX10_confirms) := goodIn_app (goodIn_of _ (by decide +kernel)) ggX10_confirmToes_X10_confirms
set_option maxRecDepth 20000 in
theorem ggX10_confirmToes_X10_ends : GoodIn wsX10_confirmToes wsX10_ends := goodIn_ca (goodIn_r _ [38, 39, 40, 15, 6, 7, 8, 4, 9, 10, 41, 42, 43, 44, 45, 46, 47, 48, 49, 50, 51, 52, 53, 54, 55, 56, 57, 58] (by decide +kernel) (by decide +kernel)) (goodIn_sub (fun _ h => List.mem_cons_of_mem _ (List.mem_append_right _ h)) (by decide +kernel))
set_option maxRecDepth 20000 in
theorem gX10_confirmToes_X10_ends : GoodIn wsX10_confirmToes (wsV RX10 99 RX10 yX10_ends wsX10_ends) := goodIn_app (goodIn_of _ (by decide +kernel)) ggX10_confirmToes_X10_ends
theorem dX10_confirmToes_0 : decode cX10_confirmToes 0 = .ok (.aload_n 0, 1) := by decide +kernel
theorem dX10_confirmToes_1 : decode cX10_confirmToes 1 = .ok (.invokevirtual 93, 3) := by decide +kernel
theorem dX10_confirmToes_4 : decode cX10_confirmToes 4 = .ok (.aload_n 0, 1) := by decide +kernel
theorem dX10_confirmToes_5 : decode cX10_confirmToes 5 = .ok (.aload_n 0, 1) := by decide +kernel
theorem dX10_confirmToes_6 : decode cX10_confirmToes 6 = .ok (.iload_n 1, 1) := by decide +kernel
theorem dX10_confirmToes_7 : decode cX10_confirmToes 7 = .ok (.invokevirtual 151, 3) := by decide +kernel
theorem dX10_confirmToes_10 : decode cX10_confirmToes 10 = .ok (.iconst 1, 1) := by decide +kernel
theorem dX10_confirmToes_11 : decode cX10_confirmToes 11 = .ok (.iconst 0, 1) := by decide +kernel
theorem dX10_confirmToes_12 : decode cX10_confirmToes 12 = .ok (.iconst 2, 1) := by decide +kernel
theorem dX10_confirmToes_13 : decode cX10_confirmToes 13 = .ok (.invokevirtual 99, 3) := by decide +kernel
theorem dX10_confirmToes_16 : decode cX10_confirmToes 16 = .ok (.ireturn, 1) := by decide +kernel
set_option maxRecDepth 20000 in
theorem ggX10_belowRow_X10_p : GoodIn wsX10_belowRow wsX10_p := goodIn_ca (goodIn_r _ [6, 1, 7, 8, 9, 10, 11, 12, 13, 14, 15, 16, 17, 18, 19, 20, 21, 22, 23, 24] (by decide +kernel) (by decide +kernel)) (goodIn_sub (fun _ h => List.mem_cons_of_mem _ (List.mem_append_right _ h)) (by decide +kernel))
set_option maxRecDepth 20000 in
theorem gX10_belowRow_X10_p : GoodIn wsX10_belowRow (wsV RX10 56 RX10 yX10_p wsX10_p) := goodIn_app (goodIn_of _ (by decide +kernel)) ggX10_belowRow_X10_p
theorem dX10_belowRow_0 : decode cX10_belowRow 0 = .ok (.iconst 0, 1) := by decide +kernel
theorem dX10_belowRow_1 : decode cX10_belowRow 1 = .ok (.istore_n 2, 1) := by decide +kernel
theorem dX10_belowRow_2 : decode cX10_belowRow 2 = .ok (.iconst 0, 1) := by decide +kernel
theorem dX10_belowRow_3 : decode cX10_belowRow 3 = .ok (.istore_n 3, 1) := by decide +kernel
theorem dX10_belowRow_4 : decode cX10_belowRow 4 = .ok (.iload_n 3, 1) := by decide +kernel
theorem dX10_belowRow_5 : decode cX10_belowRow 5 = .ok (.aload_n 0, 1) := by decide +kernel
theorem dX10_belowRow_6 : decode cX10_belowRow 6 = .ok (.getfield 9, 3) := by decide +kernel
theorem dX10_belowRow_9 : decode cX10_belowRow 9 = .ok (.iconst 1, 1) := by decide +kernel
theorem dX10_belowRow_10 : decode cX10_belowRow 10 = .ok (.iaload, 1) := by decide +kernel
theorem dX10_belowRow_11 : decode cX10_belowRow 11 = .ok (.if_icmp .ge 27, 3) := by decide +kernel
theorem dX10_belowRow_14 : decode cX10_belowRow 14 = .ok (.iload_n 2, 1) := by decide +kernel
theorem dX10_belowRow_15 : decode cX10_belowRow 15 = .ok (.aload_n 0, 1) := by decide +kernel
theorem dX10_belowRow_16 : decode cX10_belowRow 16 = .ok (.iload_n 3, 1) := by decide +kernel
theorem dX10_belowRow_17 : decode cX10_belowRow 17 = .ok (.iconst 3, 1) := by decide +kernel
theorem dX10_belowRow_18 : decode cX10_belowRow 18 = .ok (.invokevirtual 56, 3) := by decide +kernel
theorem dX10_belowRow_21 : decode cX10_belowRow 21 = .ok (.iload_n 1, 1) := by decide +kernel
theorem dX10_belowRow_22 : decode cX10_belowRow 22 = .ok (.if_icmp .ge 7, 3) := by decide +kernel
theorem dX10_belowRow_25 : decode cX10_belowRow 25 = .ok (.iconst 1, 1) := by decide +kernel
theorem dX10_belowRow_26 : decode cX10_belowRow 26 = .ok (.goto 4, 3) := by decide +kernel
theorem dX10_belowRow_29 : decode cX10_belowRow 29 = .ok (.iconst 0, 1) := by decide +kernel
theorem dX10_belowRow_30 : decode cX10_belowRow 30 = .ok (.iadd, 1) := by decide +kernel
theorem dX10_belowRow_31 : decode cX10_belowRow 31 = .ok (.istore_n 2, 1) := by decide +kernel
theorem dX10_belowRow_32 : decode cX10_belowRow 32 = .ok (.iinc 3 1, 3) := by decide +kernel
theorem dX10_belowRow_35 : decode cX10_belowRow 35 = .ok (.goto (-31), 3) := by decide +kernel
theorem dX10_belowRow_38 : decode cX10_belowRow 38 = .ok (.iload_n 2, 1) := by decide +kernel
theorem dX10_belowRow_39 : decode cX10_belowRow 39 = .ok (.ireturn, 1) := by decide +kernel
set_option maxRecDepth 20000 in
theorem ggX10_setsTide_X10_in : GoodIn wsX10_setsTide wsX10_in := goodIn_r _ [6] (by decide +kernel) (by decide +kernel)
set_option maxRecDepth 20000 in
theorem gX10_setsTide_X10_in : GoodIn wsX10_setsTide (va_wsS RX10 60 yX10_in wsX10_in) := goodIn_app (goodIn_of _ (by decide +kernel)) ggX10_setsTide_X10_in
set_option maxRecDepth 20000 in
theorem ggX10_setsTide_X10_rejects : GoodIn wsX10_setsTide wsX10_rejects := goodIn_r _ [10, 11, 12, 13, 30, 31, 32, 33, 34, 35, 36, 37, 38, 39, 40, 41, 42, 43, 44, 45, 46, 47] (by decide +kernel) (by decide +kernel)
set_option maxRecDepth 20000 in
theorem gX10_setsTide_X10_rejects : GoodIn wsX10_setsTide (wsV RX10 89 RX10 yX10_rejects wsX10_rejects) := goodIn_app (goodIn_of _ (by decide +kernel)) ggX10_setsTide_X10_rejects
set_option maxRecDepth 20000 in
theorem ggX10_setsTide_X10_belowRow : GoodIn wsX10_setsTide wsX10_belowRow := goodIn_ca (goodIn_r _ [17, 1, 18, 19, 20, 5, 21, 30, 31, 32, 33, 34, 35, 36, 37, 38, 39, 40, 41, 42, 43, 44, 45, 46, 47] (by decide +kernel) (by decide +kernel)) (goodIn_sub (fun _ h => List.mem_cons_of_mem _ (List.mem_append_right _ h)) (by decide +kernel))
set_option maxRecDepth 20000 in
theorem gX10_setsTide_X10_belowRow : GoodIn wsX10_setsTide (wsV RX10 154 RX10 yX10_belowRow wsX10_belowRow) := goodIn_app (goodIn_of _ (by decide +kernel)) ggX10_setsTide_X10_belowRow
set_option maxRecDepth 20000 in
theorem ggX10_setsTide_X10_p : GoodIn wsX10_setsTide wsX10_p := goodIn_ca (goodIn_r _ [21, 1, 30, 31, 32, 33, 34, 35, 36, 37, 38, 39, 40, 41, 42, 43, 44, 45, 46, 47] (by decide +kernel) (by decide +kernel)) (goodIn_sub (fun _ h => List.mem_cons_of_mem _ (List.mem_append_right _ h)) (by decide +kernel))
set_option maxRecDepth 20000 in
theorem gX10_setsTide_X10_p : GoodIn wsX10_setsTide (wsV RX10 56 RX10 yX10_p wsX10_p) := goodIn_app (goodIn_of _ (by decide +kernel)) ggX10_setsTide_X10_p
set_option maxRecDepth 20000 in
theorem ggX10_setsTide_X10_goes : GoodIn wsX10_setsTide wsX10_goes := goodIn_ca (goodIn_r _ [25, 1, 26, 27, 28, 5, 29, 30, 31, 32, 33, 34, 35, 36, 37, 38, 39, 40, 41, 42, 43, 44, 45, 46, 47] (by decide +kernel) (by decide +kernel)) (goodIn_sub (fun _ h => List.mem_cons_of_mem _ (List.mem_append_right _ h)) (by decide +kernel))
set_option maxRecDepth 20000 in
theorem gX10_setsTide_X10_goes : GoodIn wsX10_setsTide (wsV RX10 110 RX10 yX10_goes wsX10_goes) := goodIn_app (goodIn_of _ (by decide +kernel)) ggX10_setsTide_X10_goes
theorem dX10_setsTide_0 : decode cX10_setsTide 0 = .ok (.iload_n 1, 1) := by decide +kernel
theorem dX10_setsTide_1 : decode cX10_setsTide 1 = .ok (.iconst 0, 1) := by decide +kernel
theorem dX10_setsTide_2 : decode cX10_setsTide 2 = .ok (.bipush 8, 2) := by decide +kernel
theorem dX10_setsTide_4 : decode cX10_setsTide 4 = .ok (.invokestatic 60, 3) := by decide +kernel
theorem dX10_setsTide_7 : decode cX10_setsTide 7 = .ok (.ifCond .ne 5, 3) := by decide +kernel
theorem dX10_setsTide_10 : decode cX10_setsTide 10 = .ok (.iconst 2, 1) := by decide +kernel
theorem dX10_setsTide_11 : decode cX10_setsTide 11 = .ok (.ireturn, 1) := by decide +kernel
theorem dX10_setsTide_12 : decode cX10_setsTide 12 = .ok (.aload_n 0, 1) := by decide +kernel
theorem dX10_setsTide_13 : decode cX10_setsTide 13 = .ok (.aload_n 0, 1) := by decide +kernel
theorem dX10_setsTide_14 : decode cX10_setsTide 14 = .ok (.getfield 9, 3) := by decide +kernel
theorem dX10_setsTide_17 : decode cX10_setsTide 17 = .ok (.iconst 4, 1) := by decide +kernel
theorem dX10_setsTide_18 : decode cX10_setsTide 18 = .ok (.iaload, 1) := by decide +kernel
theorem dX10_setsTide_19 : decode cX10_setsTide 19 = .ok (.iload_n 1, 1) := by decide +kernel
theorem dX10_setsTide_20 : decode cX10_setsTide 20 = .ok (.if_icmp .ne 7, 3) := by decide +kernel
theorem dX10_setsTide_23 : decode cX10_setsTide 23 = .ok (.iconst 1, 1) := by decide +kernel
theorem dX10_setsTide_24 : decode cX10_setsTide 24 = .ok (.goto 4, 3) := by decide +kernel
theorem dX10_setsTide_27 : decode cX10_setsTide 27 = .ok (.iconst 0, 1) := by decide +kernel
theorem dX10_setsTide_28 : decode cX10_setsTide 28 = .ok (.bipush 9, 2) := by decide +kernel
theorem dX10_setsTide_30 : decode cX10_setsTide 30 = .ok (.iload_n 1, 1) := by decide +kernel
theorem dX10_setsTide_31 : decode cX10_setsTide 31 = .ok (.invokevirtual 89, 3) := by decide +kernel
theorem dX10_setsTide_34 : decode cX10_setsTide 34 = .ok (.ifCond .eq 5, 3) := by decide +kernel
theorem dX10_setsTide_37 : decode cX10_setsTide 37 = .ok (.iconst 3, 1) := by decide +kernel
theorem dX10_setsTide_38 : decode cX10_setsTide 38 = .ok (.ireturn, 1) := by decide +kernel
theorem dX10_setsTide_39 : decode cX10_setsTide 39 = .ok (.aload_n 0, 1) := by decide +kernel
theorem dX10_setsTide_40 : decode cX10_setsTide 40 = .ok (.aload_n 0, 1) := by decide +kernel
theorem dX10_setsTide_41 : decode cX10_setsTide 41 = .ok (.iload_n 1, 1) := by decide +kernel
theorem dX10_setsTide_42 : decode cX10_setsTide 42 = .ok (.invokevirtual 154, 3) := by decide +kernel
theorem dX10_setsTide_45 : decode cX10_setsTide 45 = .ok (.putfield 37, 3) := by decide +kernel
theorem dX10_setsTide_48 : decode cX10_setsTide 48 = .ok (.aload_n 0, 1) := by decide +kernel
theorem dX10_setsTide_49 : decode cX10_setsTide 49 = .ok (.getfield 9, 3) := by decide +kernel
theorem dX10_setsTide_52 : decode cX10_setsTide 52 = .ok (.iconst 1, 1) := by decide +kernel
theorem dX10_setsTide_53 : decode cX10_setsTide 53 = .ok (.iaload, 1) := by decide +kernel
theorem dX10_setsTide_54 : decode cX10_setsTide 54 = .ok (.iconst 1, 1) := by decide +kernel
theorem dX10_setsTide_55 : decode cX10_setsTide 55 = .ok (.isub, 1) := by decide +kernel
theorem dX10_setsTide_56 : decode cX10_setsTide 56 = .ok (.istore_n 2, 1) := by decide +kernel
theorem dX10_setsTide_57 : decode cX10_setsTide 57 = .ok (.iload_n 2, 1) := by decide +kernel
theorem dX10_setsTide_58 : decode cX10_setsTide 58 = .ok (.ifCond .lt 24, 3) := by decide +kernel
theorem dX10_setsTide_61 : decode cX10_setsTide 61 = .ok (.aload_n 0, 1) := by decide +kernel
theorem dX10_setsTide_62 : decode cX10_setsTide 62 = .ok (.iload_n 2, 1) := by decide +kernel
theorem dX10_setsTide_63 : decode cX10_setsTide 63 = .ok (.iconst 3, 1) := by decide +kernel
theorem dX10_setsTide_64 : decode cX10_setsTide 64 = .ok (.invokevirtual 56, 3) := by decide +kernel
theorem dX10_setsTide_67 : decode cX10_setsTide 67 = .ok (.iload_n 1, 1) := by decide +kernel
theorem dX10_setsTide_68 : decode cX10_setsTide 68 = .ok (.if_icmp .ge 8, 3) := by decide +kernel
theorem dX10_setsTide_71 : decode cX10_setsTide 71 = .ok (.aload_n 0, 1) := by decide +kernel
theorem dX10_setsTide_72 : decode cX10_setsTide 72 = .ok (.iload_n 2, 1) := by decide +kernel
theorem dX10_setsTide_73 : decode cX10_setsTide 73 = .ok (.invokevirtual 110, 3) := by decide +kernel
theorem dX10_setsTide_76 : decode cX10_setsTide 76 = .ok (.iinc 2 (-1), 3) := by decide +kernel
theorem dX10_setsTide_79 : decode cX10_setsTide 79 = .ok (.goto (-22), 3) := by decide +kernel
theorem dX10_setsTide_82 : decode cX10_setsTide 82 = .ok (.aload_n 0, 1) := by decide +kernel
theorem dX10_setsTide_83 : decode cX10_setsTide 83 = .ok (.getfield 9, 3) := by decide +kernel
theorem dX10_setsTide_86 : decode cX10_setsTide 86 = .ok (.iconst 4, 1) := by decide +kernel
theorem dX10_setsTide_87 : decode cX10_setsTide 87 = .ok (.iload_n 1, 1) := by decide +kernel
theorem dX10_setsTide_88 : decode cX10_setsTide 88 = .ok (.iastore, 1) := by decide +kernel
theorem dX10_setsTide_89 : decode cX10_setsTide 89 = .ok (.aload_n 0, 1) := by decide +kernel
theorem dX10_setsTide_90 : decode cX10_setsTide 90 = .ok (.getfield 9, 3) := by decide +kernel
theorem dX10_setsTide_93 : decode cX10_setsTide 93 = .ok (.iconst 5, 1) := by decide +kernel
theorem dX10_setsTide_94 : decode cX10_setsTide 94 = .ok (.dup2, 1) := by decide +kernel
theorem dX10_setsTide_95 : decode cX10_setsTide 95 = .ok (.iaload, 1) := by decide +kernel
theorem dX10_setsTide_96 : decode cX10_setsTide 96 = .ok (.aload_n 0, 1) := by decide +kernel
theorem dX10_setsTide_97 : decode cX10_setsTide 97 = .ok (.getfield 37, 3) := by decide +kernel
theorem dX10_setsTide_100 : decode cX10_setsTide 100 = .ok (.iadd, 1) := by decide +kernel
theorem dX10_setsTide_101 : decode cX10_setsTide 101 = .ok (.iastore, 1) := by decide +kernel
theorem dX10_setsTide_102 : decode cX10_setsTide 102 = .ok (.iconst 0, 1) := by decide +kernel
theorem dX10_setsTide_103 : decode cX10_setsTide 103 = .ok (.ireturn, 1) := by decide +kernel
set_option maxRecDepth 20000 in
theorem ggX10_setTide_X10_begins : GoodIn wsX10_setTide wsX10_begins := goodIn_ca (goodIn_r _ [5, 6, 7, 8, 4, 9, 10, 48, 49, 50, 51, 52, 53, 54, 55, 56, 57, 58, 59, 60, 61, 62, 63, 64, 65] (by decide +kernel) (by decide +kernel)) (goodIn_sub (fun _ h => List.mem_cons_of_mem _ (List.mem_append_right _ h)) (by decide +kernel))
set_option maxRecDepth 20000 in
theorem gX10_setTide_X10_begins : GoodIn wsX10_setTide (wsV RX10 93 RX10 yX10_begins wsX10_begins) := goodIn_app (goodIn_of _ (by decide +kernel)) ggX10_setTide_X10_begins
set_option maxRecDepth 20000 in
theorem ggX10_setTide_X10_setsTide : GoodIn wsX10_setTide wsX10_setsTide := goodIn_ca (goodIn_r _ [14, 10, 15, 16, 17, 4, 18, 19, 20, 21, 22, 23, 24, 25, 26, 27, 28, 29, 30, 31, 32, 33, 34, 35, 36, 37, 38, 39, 40, 41, 48, 49, 50, 51, 52, 53, 54, 55, 56, 57, 58, 59, 60, 61, 62, 63, 64, 65] (by decide +kernel) (by decide +kernel)) (goodIn_sub (fun _ h => List.mem_cons_of_mem _ (List.mem_append_right _ h)) (by decide +kernel))
set_option maxRecDepth 20000 in
theorem gX10_setTide_X10_setsTide : GoodIn wsX10_setTide (wsV RX10 157 RX10 yX10_setsTide wsX10_setsTide) := goodIn_app (goodIn_of _ (by decide +kernel)) ggX10_setTide_X10_setsTide
set_option maxRecDepth 20000 in
theorem ggX10_setTide_X10_ends : GoodIn wsX10_setTide wsX10_ends := goodIn_ca (goodIn_r _ [45, 46, 47, 15, 6, 7, 8, 4, 9, 10, 48, 49, 50, 51, 52, 53, 54, 55, 56, 57, 58, 59, 60, 61, 62, 63, 64, 65] (by decide +kernel) (by decide +kernel)) (goodIn_sub (fun _ h => List.mem_cons_of_mem _ (List.mem_append_right _ h)) (by decide +kernel))
set_option maxRecDepth 20000 in
theorem gX10_setTide_X10_ends : GoodIn wsX10_setTide (wsV RX10 99 RX10 yX10_ends wsX10_ends) := goodIn_app (goodIn_of _ (by decide +kernel)) ggX10_setTide_X10_ends
theorem dX10_setTide_0 : decode cX10_setTide 0 = .ok (.aload_n 0, 1) := by decide +kernel
theorem dX10_setTide_1 : decode cX10_setTide 1 = .ok (.invokevirtual 93, 3) := by decide +kernel
theorem dX10_setTide_4 : decode cX10_setTide 4 = .ok (.aload_n 0, 1) := by decide +kernel
theorem dX10_setTide_5 : decode cX10_setTide 5 = .ok (.aload_n 0, 1) := by decide +kernel
theorem dX10_setTide_6 : decode cX10_setTide 6 = .ok (.iload_n 1, 1) := by decide +kernel
theorem dX10_setTide_7 : decode cX10_setTide 7 = .ok (.invokevirtual 157, 3) := by decide +kernel
theorem dX10_setTide_10 : decode cX10_setTide 10 = .ok (.iconst 0, 1) := by decide +kernel
theorem dX10_setTide_11 : decode cX10_setTide 11 = .ok (.iconst 1, 1) := by decide +kernel
theorem dX10_setTide_12 : decode cX10_setTide 12 = .ok (.iconst 2, 1) := by decide +kernel
theorem dX10_setTide_13 : decode cX10_setTide 13 = .ok (.invokevirtual 99, 3) := by decide +kernel
theorem dX10_setTide_16 : decode cX10_setTide 16 = .ok (.ireturn, 1) := by decide +kernel
set_option maxRecDepth 20000 in
theorem ggX10_ofPrint_X10_find : GoodIn wsX10_ofPrint wsX10_find := goodIn_ca (goodIn_r _ [5, 6, 7, 8, 9, 4, 10, 16, 17, 18, 19, 20, 21, 22, 23, 24, 25, 26, 27, 28, 29, 30, 31, 32, 33] (by decide +kernel) (by decide +kernel)) (goodIn_sub (fun _ h => List.mem_cons_of_mem _ (List.mem_append_right _ h)) (by decide +kernel))
set_option maxRecDepth 20000 in
theorem gX10_ofPrint_X10_find : GoodIn wsX10_ofPrint (wsV RX10 136 RX10 yX10_find wsX10_find) := goodIn_app (goodIn_of _ (by decide +kernel)) ggX10_ofPrint_X10_find
set_option maxRecDepth 20000 in
theorem ggX10_ofPrint_X10_isFine : GoodIn wsX10_ofPrint wsX10_isFine := goodIn_r _ [14, 15, 16, 17, 18, 19, 20, 21, 22, 23, 24, 25, 26, 27, 28, 29, 30, 31, 32, 33] (by decide +kernel) (by decide +kernel)
set_option maxRecDepth 20000 in
theorem gX10_ofPrint_X10_isFine : GoodIn wsX10_ofPrint (wsV RX10 49 RX10 yX10_isFine wsX10_isFine) := goodIn_app (goodIn_of _ (by decide +kernel)) ggX10_ofPrint_X10_isFine
set_option maxRecDepth 20000 in
theorem ggX10_ofPrint_X10_p : GoodIn wsX10_ofPrint wsX10_p := goodIn_ca (goodIn_r _ [10, 6, 16, 17, 18, 19, 20, 21, 22, 23, 24, 25, 26, 27, 28, 29, 30, 31, 32, 33] (by decide +kernel) (by decide +kernel)) (goodIn_sub (fun _ h => List.mem_cons_of_mem _ (List.mem_append_right _ h)) (by decide +kernel))
set_option maxRecDepth 20000 in
theorem gX10_ofPrint_X10_p : GoodIn wsX10_ofPrint (wsV RX10 56 RX10 yX10_p wsX10_p) := goodIn_app (goodIn_of _ (by decide +kernel)) ggX10_ofPrint_X10_p
theorem dX10_ofPrint_0 : decode cX10_ofPrint 0 = .ok (.aload_n 0, 1) := by decide +kernel
theorem dX10_ofPrint_1 : decode cX10_ofPrint 1 = .ok (.iload_n 1, 1) := by decide +kernel
theorem dX10_ofPrint_2 : decode cX10_ofPrint 2 = .ok (.invokevirtual 136, 3) := by decide +kernel
theorem dX10_ofPrint_5 : decode cX10_ofPrint 5 = .ok (.istore_n 3, 1) := by decide +kernel
theorem dX10_ofPrint_6 : decode cX10_ofPrint 6 = .ok (.aload_n 0, 1) := by decide +kernel
theorem dX10_ofPrint_7 : decode cX10_ofPrint 7 = .ok (.iload_n 3, 1) := by decide +kernel
theorem dX10_ofPrint_8 : decode cX10_ofPrint 8 = .ok (.ifCond .lt 7, 3) := by decide +kernel
theorem dX10_ofPrint_11 : decode cX10_ofPrint 11 = .ok (.iconst 1, 1) := by decide +kernel
theorem dX10_ofPrint_12 : decode cX10_ofPrint 12 = .ok (.goto 4, 3) := by decide +kernel
theorem dX10_ofPrint_15 : decode cX10_ofPrint 15 = .ok (.iconst 0, 1) := by decide +kernel
theorem dX10_ofPrint_16 : decode cX10_ofPrint 16 = .ok (.invokevirtual 49, 3) := by decide +kernel
theorem dX10_ofPrint_19 : decode cX10_ofPrint 19 = .ok (.ifCond .eq 12, 3) := by decide +kernel
theorem dX10_ofPrint_22 : decode cX10_ofPrint 22 = .ok (.aload_n 0, 1) := by decide +kernel
theorem dX10_ofPrint_23 : decode cX10_ofPrint 23 = .ok (.iload_n 3, 1) := by decide +kernel
theorem dX10_ofPrint_24 : decode cX10_ofPrint 24 = .ok (.iload_n 2, 1) := by decide +kernel
theorem dX10_ofPrint_25 : decode cX10_ofPrint 25 = .ok (.invokevirtual 56, 3) := by decide +kernel
theorem dX10_ofPrint_28 : decode cX10_ofPrint 28 = .ok (.goto 4, 3) := by decide +kernel
theorem dX10_ofPrint_31 : decode cX10_ofPrint 31 = .ok (.iconst 0, 1) := by decide +kernel
theorem dX10_ofPrint_32 : decode cX10_ofPrint 32 = .ok (.ireturn, 1) := by decide +kernel
set_option maxRecDepth 20000 in
theorem ggX10_trackOf_X10_ofPrint : GoodIn wsX10_trackOf wsX10_ofPrint := goodIn_ca (goodIn_r _ [5, 6, 7, 8, 4, 9, 10, 11, 12, 13, 14, 15, 16, 17, 18, 19, 20, 21, 22, 23, 24, 25, 26, 27, 28, 29, 30, 31, 32, 33, 34, 35, 36, 37] (by decide +kernel) (by decide +kernel)) (goodIn_sub (fun _ h => List.mem_cons_of_mem _ (List.mem_append_right _ h)) (by decide +kernel))
set_option maxRecDepth 20000 in
theorem gX10_trackOf_X10_ofPrint : GoodIn wsX10_trackOf (wsV RX10 160 RX10 yX10_ofPrint wsX10_ofPrint) := goodIn_app (goodIn_of _ (by decide +kernel)) ggX10_trackOf_X10_ofPrint
theorem dX10_trackOf_0 : decode cX10_trackOf 0 = .ok (.aload_n 0, 1) := by decide +kernel
theorem dX10_trackOf_1 : decode cX10_trackOf 1 = .ok (.iload_n 1, 1) := by decide +kernel
theorem dX10_trackOf_2 : decode cX10_trackOf 2 = .ok (.iconst 1, 1) := by decide +kernel
theorem dX10_trackOf_3 : decode cX10_trackOf 3 = .ok (.invokevirtual 160, 3) := by decide +kernel
theorem dX10_trackOf_6 : decode cX10_trackOf 6 = .ok (.ireturn, 1) := by decide +kernel
set_option maxRecDepth 20000 in
theorem ggX10_timeOf_X10_ofPrint : GoodIn wsX10_timeOf wsX10_ofPrint := goodIn_ca (goodIn_r _ [5, 6, 7, 8, 4, 9, 10, 11, 12, 13, 14, 15, 16, 17, 18, 19, 20, 21, 22, 23, 24, 25, 26, 27, 28, 29, 30, 31, 32, 33, 34, 35, 36, 37] (by decide +kernel) (by decide +kernel)) (goodIn_sub (fun _ h => List.mem_cons_of_mem _ (List.mem_append_right _ h)) (by decide +kernel))
set_option maxRecDepth 20000 in
theorem gX10_timeOf_X10_ofPrint : GoodIn wsX10_timeOf (wsV RX10 160 RX10 yX10_ofPrint wsX10_ofPrint) := goodIn_app (goodIn_of _ (by decide +kernel)) ggX10_timeOf_X10_ofPrint
theorem dX10_timeOf_0 : decode cX10_timeOf 0 = .ok (.aload_n 0, 1) := by decide +kernel
theorem dX10_timeOf_1 : decode cX10_timeOf 1 = .ok (.iload_n 1, 1) := by decide +kernel
theorem dX10_timeOf_2 : decode cX10_timeOf 2 = .ok (.iconst 2, 1) := by decide +kernel
theorem dX10_timeOf_3 : decode cX10_timeOf 3 = .ok (.invokevirtual 160, 3) := by decide +kernel
theorem dX10_timeOf_6 : decode cX10_timeOf 6 = .ok (.ireturn, 1) := by decide +kernel
set_option maxRecDepth 20000 in
theorem ggX10_rowOf_X10_ofPrint : GoodIn wsX10_rowOf wsX10_ofPrint := goodIn_ca (goodIn_r _ [5, 6, 7, 8, 4, 9, 10, 11, 12, 13, 14, 15, 16, 17, 18, 19, 20, 21, 22, 23, 24, 25, 26, 27, 28, 29, 30, 31, 32, 33, 34, 35, 36, 37] (by decide +kernel) (by decide +kernel)) (goodIn_sub (fun _ h => List.mem_cons_of_mem _ (List.mem_append_right _ h)) (by decide +kernel))
set_option maxRecDepth 20000 in
theorem gX10_rowOf_X10_ofPrint : GoodIn wsX10_rowOf (wsV RX10 160 RX10 yX10_ofPrint wsX10_ofPrint) := goodIn_app (goodIn_of _ (by decide +kernel)) ggX10_rowOf_X10_ofPrint
theorem dX10_rowOf_0 : decode cX10_rowOf 0 = .ok (.aload_n 0, 1) := by decide +kernel
theorem dX10_rowOf_1 : decode cX10_rowOf 1 = .ok (.iload_n 1, 1) := by decide +kernel
theorem dX10_rowOf_2 : decode cX10_rowOf 2 = .ok (.iconst 3, 1) := by decide +kernel
theorem dX10_rowOf_3 : decode cX10_rowOf 3 = .ok (.invokevirtual 160, 3) := by decide +kernel
theorem dX10_rowOf_6 : decode cX10_rowOf 6 = .ok (.ireturn, 1) := by decide +kernel
set_option maxRecDepth 20000 in
theorem ggX10_columnOf_X10_ofPrint : GoodIn wsX10_columnOf wsX10_ofPrint := goodIn_ca (goodIn_r _ [5, 6, 7, 8, 4, 9, 10, 11, 12, 13, 14, 15, 16, 17, 18, 19, 20, 21, 22, 23, 24, 25, 26, 27, 28, 29, 30, 31, 32, 33, 34, 35, 36, 37] (by decide +kernel) (by decide +kernel)) (goodIn_sub (fun _ h => List.mem_cons_of_mem _ (List.mem_append_right _ h)) (by decide +kernel))
set_option maxRecDepth 20000 in
theorem gX10_columnOf_X10_ofPrint : GoodIn wsX10_columnOf (wsV RX10 160 RX10 yX10_ofPrint wsX10_ofPrint) := goodIn_app (goodIn_of _ (by decide +kernel)) ggX10_columnOf_X10_ofPrint
theorem dX10_columnOf_0 : decode cX10_columnOf 0 = .ok (.aload_n 0, 1) := by decide +kernel
theorem dX10_columnOf_1 : decode cX10_columnOf 1 = .ok (.iload_n 1, 1) := by decide +kernel
theorem dX10_columnOf_2 : decode cX10_columnOf 2 = .ok (.iconst 4, 1) := by decide +kernel
theorem dX10_columnOf_3 : decode cX10_columnOf 3 = .ok (.invokevirtual 160, 3) := by decide +kernel
theorem dX10_columnOf_6 : decode cX10_columnOf 6 = .ok (.ireturn, 1) := by decide +kernel
set_option maxRecDepth 20000 in
theorem ggX10_isLeft_X10_ofPrint : GoodIn wsX10_isLeft wsX10_ofPrint := goodIn_ca (goodIn_r _ [5, 6, 7, 8, 4, 9, 10, 11, 12, 13, 14, 15, 16, 17, 18, 19, 20, 21, 22, 23, 24, 25, 26, 27, 28, 29, 30, 31, 32, 33, 34, 35, 36, 37] (by decide +kernel) (by decide +kernel)) (goodIn_sub (fun _ h => List.mem_cons_of_mem _ (List.mem_append_right _ h)) (by decide +kernel))
set_option maxRecDepth 20000 in
theorem gX10_isLeft_X10_ofPrint : GoodIn wsX10_isLeft (wsV RX10 160 RX10 yX10_ofPrint wsX10_ofPrint) := goodIn_app (goodIn_of _ (by decide +kernel)) ggX10_isLeft_X10_ofPrint
theorem dX10_isLeft_0 : decode cX10_isLeft 0 = .ok (.aload_n 0, 1) := by decide +kernel
theorem dX10_isLeft_1 : decode cX10_isLeft 1 = .ok (.iload_n 1, 1) := by decide +kernel
theorem dX10_isLeft_2 : decode cX10_isLeft 2 = .ok (.iconst 5, 1) := by decide +kernel
theorem dX10_isLeft_3 : decode cX10_isLeft 3 = .ok (.invokevirtual 160, 3) := by decide +kernel
theorem dX10_isLeft_6 : decode cX10_isLeft 6 = .ok (.iconst 1, 1) := by decide +kernel
theorem dX10_isLeft_7 : decode cX10_isLeft 7 = .ok (.if_icmp .ne 7, 3) := by decide +kernel
theorem dX10_isLeft_10 : decode cX10_isLeft 10 = .ok (.iconst 1, 1) := by decide +kernel
theorem dX10_isLeft_11 : decode cX10_isLeft 11 = .ok (.goto 4, 3) := by decide +kernel
theorem dX10_isLeft_14 : decode cX10_isLeft 14 = .ok (.iconst 0, 1) := by decide +kernel
theorem dX10_isLeft_15 : decode cX10_isLeft 15 = .ok (.ireturn, 1) := by decide +kernel
set_option maxRecDepth 20000 in
theorem ggX10_depthOf_X10_ofPrint : GoodIn wsX10_depthOf wsX10_ofPrint := goodIn_ca (goodIn_r _ [5, 6, 7, 8, 4, 9, 10, 11, 12, 13, 14, 15, 16, 17, 18, 19, 20, 21, 22, 23, 24, 25, 26, 27, 28, 29, 30, 31, 32, 33, 34, 35, 36, 37] (by decide +kernel) (by decide +kernel)) (goodIn_sub (fun _ h => List.mem_cons_of_mem _ (List.mem_append_right _ h)) (by decide +kernel))
set_option maxRecDepth 20000 in
theorem gX10_depthOf_X10_ofPrint : GoodIn wsX10_depthOf (wsV RX10 160 RX10 yX10_ofPrint wsX10_ofPrint) := goodIn_app (goodIn_of _ (by decide +kernel)) ggX10_depthOf_X10_ofPrint
theorem dX10_depthOf_0 : decode cX10_depthOf 0 = .ok (.aload_n 0, 1) := by decide +kernel
theorem dX10_depthOf_1 : decode cX10_depthOf 1 = .ok (.iload_n 1, 1) := by decide +kernel
theorem dX10_depthOf_2 : decode cX10_depthOf 2 = .ok (.bipush 6, 2) := by decide +kernel
theorem dX10_depthOf_4 : decode cX10_depthOf 4 = .ok (.invokevirtual 160, 3) := by decide +kernel
theorem dX10_depthOf_7 : decode cX10_depthOf 7 = .ok (.ireturn, 1) := by decide +kernel
set_option maxRecDepth 20000 in
theorem ggX10_doubtsOf_X10_ofPrint : GoodIn wsX10_doubtsOf wsX10_ofPrint := goodIn_ca (goodIn_r _ [5, 6, 7, 8, 4, 9, 10, 11, 12, 13, 14, 15, 16, 17, 18, 19, 20, 21, 22, 23, 24, 25, 26, 27, 28, 29, 30, 31, 32, 33, 34, 35, 36, 37] (by decide +kernel) (by decide +kernel)) (goodIn_sub (fun _ h => List.mem_cons_of_mem _ (List.mem_append_right _ h)) (by decide +kernel))
set_option maxRecDepth 20000 in
theorem gX10_doubtsOf_X10_ofPrint : GoodIn wsX10_doubtsOf (wsV RX10 160 RX10 yX10_ofPrint wsX10_ofPrint) := goodIn_app (goodIn_of _ (by decide +kernel)) ggX10_doubtsOf_X10_ofPrint
theorem dX10_doubtsOf_0 : decode cX10_doubtsOf 0 = .ok (.aload_n 0, 1) := by decide +kernel
theorem dX10_doubtsOf_1 : decode cX10_doubtsOf 1 = .ok (.iload_n 1, 1) := by decide +kernel
theorem dX10_doubtsOf_2 : decode cX10_doubtsOf 2 = .ok (.bipush 7, 2) := by decide +kernel
