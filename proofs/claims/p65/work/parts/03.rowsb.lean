theorem dX4_errorsByKinds_87 : decode cX4_errorsByKinds 87 = .ok (.iconst 0, 1) := by decide +kernel
theorem dX4_errorsByKinds_88 : decode cX4_errorsByKinds 88 = .ok (.istore 6, 2) := by decide +kernel
theorem dX4_errorsByKinds_90 : decode cX4_errorsByKinds 90 = .ok (.iload 6, 2) := by decide +kernel
theorem dX4_errorsByKinds_92 : decode cX4_errorsByKinds 92 = .ok (.iload 5, 2) := by decide +kernel
theorem dX4_errorsByKinds_94 : decode cX4_errorsByKinds 94 = .ok (.if_icmp .ge 51, 3) := by decide +kernel
theorem dX4_errorsByKinds_97 : decode cX4_errorsByKinds 97 = .ok (.aload 4, 2) := by decide +kernel
theorem dX4_errorsByKinds_99 : decode cX4_errorsByKinds 99 = .ok (.iload 6, 2) := by decide +kernel
theorem dX4_errorsByKinds_101 : decode cX4_errorsByKinds 101 = .ok (.aaload, 1) := by decide +kernel
theorem dX4_errorsByKinds_102 : decode cX4_errorsByKinds 102 = .ok (.astore 7, 2) := by decide +kernel
theorem dX4_errorsByKinds_104 : decode cX4_errorsByKinds 104 = .ok (.iload_n 3, 1) := by decide +kernel
theorem dX4_errorsByKinds_105 : decode cX4_errorsByKinds 105 = .ok (.aload 7, 2) := by decide +kernel
theorem dX4_errorsByKinds_107 : decode cX4_errorsByKinds 107 = .ok (.iload_n 1, 1) := by decide +kernel
theorem dX4_errorsByKinds_108 : decode cX4_errorsByKinds 108 = .ok (.invokevirtual 83, 3) := by decide +kernel
theorem dX4_errorsByKinds_111 : decode cX4_errorsByKinds 111 = .ok (.ifCond .eq 25, 3) := by decide +kernel
theorem dX4_errorsByKinds_114 : decode cX4_errorsByKinds 114 = .ok (.aload_n 0, 1) := by decide +kernel
theorem dX4_errorsByKinds_115 : decode cX4_errorsByKinds 115 = .ok (.aload_n 0, 1) := by decide +kernel
theorem dX4_errorsByKinds_116 : decode cX4_errorsByKinds 116 = .ok (.getfield 9, 3) := by decide +kernel
theorem dX4_errorsByKinds_119 : decode cX4_errorsByKinds 119 = .ok (.aload 7, 2) := by decide +kernel
theorem dX4_errorsByKinds_121 : decode cX4_errorsByKinds 121 = .ok (.invokevirtual 15, 3) := by decide +kernel
theorem dX4_errorsByKinds_124 : decode cX4_errorsByKinds 124 = .ok (.aload 7, 2) := by decide +kernel
theorem dX4_errorsByKinds_126 : decode cX4_errorsByKinds 126 = .ok (.invokevirtual 25, 3) := by decide +kernel
theorem dX4_errorsByKinds_129 : decode cX4_errorsByKinds 129 = .ok (.ifCond .eq 7, 3) := by decide +kernel
theorem dX4_errorsByKinds_132 : decode cX4_errorsByKinds 132 = .ok (.iconst 1, 1) := by decide +kernel
theorem dX4_errorsByKinds_133 : decode cX4_errorsByKinds 133 = .ok (.goto 4, 3) := by decide +kernel
theorem dX4_errorsByKinds_136 : decode cX4_errorsByKinds 136 = .ok (.iconst 0, 1) := by decide +kernel
theorem dX4_errorsByKinds_137 : decode cX4_errorsByKinds 137 = .ok (.iadd, 1) := by decide +kernel
theorem dX4_errorsByKinds_138 : decode cX4_errorsByKinds 138 = .ok (.istore_n 3, 1) := by decide +kernel
theorem dX4_errorsByKinds_139 : decode cX4_errorsByKinds 139 = .ok (.iinc 6 1, 3) := by decide +kernel
theorem dX4_errorsByKinds_142 : decode cX4_errorsByKinds 142 = .ok (.goto (-52), 3) := by decide +kernel
theorem dX4_errorsByKinds_145 : decode cX4_errorsByKinds 145 = .ok (.iconst 0, 1) := by decide +kernel
theorem dX4_errorsByKinds_146 : decode cX4_errorsByKinds 146 = .ok (.istore 4, 2) := by decide +kernel
theorem dX4_errorsByKinds_148 : decode cX4_errorsByKinds 148 = .ok (.aload_n 0, 1) := by decide +kernel
theorem dX4_errorsByKinds_149 : decode cX4_errorsByKinds 149 = .ok (.getfield 9, 3) := by decide +kernel
theorem dX4_errorsByKinds_152 : decode cX4_errorsByKinds 152 = .ok (.getfield 79, 3) := by decide +kernel
theorem dX4_errorsByKinds_155 : decode cX4_errorsByKinds 155 = .ok (.astore 5, 2) := by decide +kernel
theorem dX4_errorsByKinds_157 : decode cX4_errorsByKinds 157 = .ok (.aload 5, 2) := by decide +kernel
theorem dX4_errorsByKinds_159 : decode cX4_errorsByKinds 159 = .ok (.arraylength, 1) := by decide +kernel
theorem dX4_errorsByKinds_160 : decode cX4_errorsByKinds 160 = .ok (.istore 6, 2) := by decide +kernel
theorem dX4_errorsByKinds_162 : decode cX4_errorsByKinds 162 = .ok (.iconst 0, 1) := by decide +kernel
theorem dX4_errorsByKinds_163 : decode cX4_errorsByKinds 163 = .ok (.istore 7, 2) := by decide +kernel
theorem dX4_errorsByKinds_165 : decode cX4_errorsByKinds 165 = .ok (.iload 7, 2) := by decide +kernel
theorem dX4_errorsByKinds_167 : decode cX4_errorsByKinds 167 = .ok (.iload 6, 2) := by decide +kernel
theorem dX4_errorsByKinds_169 : decode cX4_errorsByKinds 169 = .ok (.if_icmp .ge 53, 3) := by decide +kernel
theorem dX4_errorsByKinds_172 : decode cX4_errorsByKinds 172 = .ok (.aload 5, 2) := by decide +kernel
theorem dX4_errorsByKinds_174 : decode cX4_errorsByKinds 174 = .ok (.iload 7, 2) := by decide +kernel
theorem dX4_errorsByKinds_176 : decode cX4_errorsByKinds 176 = .ok (.aaload, 1) := by decide +kernel
theorem dX4_errorsByKinds_177 : decode cX4_errorsByKinds 177 = .ok (.astore 8, 2) := by decide +kernel
theorem dX4_errorsByKinds_179 : decode cX4_errorsByKinds 179 = .ok (.iload 4, 2) := by decide +kernel
theorem dX4_errorsByKinds_181 : decode cX4_errorsByKinds 181 = .ok (.aload 8, 2) := by decide +kernel
theorem dX4_errorsByKinds_183 : decode cX4_errorsByKinds 183 = .ok (.iload_n 1, 1) := by decide +kernel
theorem dX4_errorsByKinds_184 : decode cX4_errorsByKinds 184 = .ok (.invokevirtual 83, 3) := by decide +kernel
theorem dX4_errorsByKinds_187 : decode cX4_errorsByKinds 187 = .ok (.ifCond .eq 25, 3) := by decide +kernel
theorem dX4_errorsByKinds_190 : decode cX4_errorsByKinds 190 = .ok (.aload_n 0, 1) := by decide +kernel
theorem dX4_errorsByKinds_191 : decode cX4_errorsByKinds 191 = .ok (.aload_n 0, 1) := by decide +kernel
theorem dX4_errorsByKinds_192 : decode cX4_errorsByKinds 192 = .ok (.getfield 9, 3) := by decide +kernel
theorem dX4_errorsByKinds_195 : decode cX4_errorsByKinds 195 = .ok (.aload 8, 2) := by decide +kernel
theorem dX4_errorsByKinds_197 : decode cX4_errorsByKinds 197 = .ok (.invokevirtual 15, 3) := by decide +kernel
theorem dX4_errorsByKinds_200 : decode cX4_errorsByKinds 200 = .ok (.aload 8, 2) := by decide +kernel
theorem dX4_errorsByKinds_202 : decode cX4_errorsByKinds 202 = .ok (.invokevirtual 28, 3) := by decide +kernel
theorem dX4_errorsByKinds_205 : decode cX4_errorsByKinds 205 = .ok (.ifCond .eq 7, 3) := by decide +kernel
theorem dX4_errorsByKinds_208 : decode cX4_errorsByKinds 208 = .ok (.iconst 1, 1) := by decide +kernel
theorem dX4_errorsByKinds_209 : decode cX4_errorsByKinds 209 = .ok (.goto 4, 3) := by decide +kernel
theorem dX4_errorsByKinds_212 : decode cX4_errorsByKinds 212 = .ok (.iconst 0, 1) := by decide +kernel
theorem dX4_errorsByKinds_213 : decode cX4_errorsByKinds 213 = .ok (.iadd, 1) := by decide +kernel
theorem dX4_errorsByKinds_214 : decode cX4_errorsByKinds 214 = .ok (.istore 4, 2) := by decide +kernel
theorem dX4_errorsByKinds_216 : decode cX4_errorsByKinds 216 = .ok (.iinc 7 1, 3) := by decide +kernel
theorem dX4_errorsByKinds_219 : decode cX4_errorsByKinds 219 = .ok (.goto (-54), 3) := by decide +kernel
theorem dX4_errorsByKinds_222 : decode cX4_errorsByKinds 222 = .ok (.iload_n 2, 1) := by decide +kernel
theorem dX4_errorsByKinds_223 : decode cX4_errorsByKinds 223 = .ok (.iload_n 3, 1) := by decide +kernel
theorem dX4_errorsByKinds_224 : decode cX4_errorsByKinds 224 = .ok (.iadd, 1) := by decide +kernel
theorem dX4_errorsByKinds_225 : decode cX4_errorsByKinds 225 = .ok (.iload 4, 2) := by decide +kernel
theorem dX4_errorsByKinds_227 : decode cX4_errorsByKinds 227 = .ok (.iadd, 1) := by decide +kernel
theorem dX4_errorsByKinds_228 : decode cX4_errorsByKinds 228 = .ok (.ireturn, 1) := by decide +kernel
set_option maxRecDepth 20000 in
theorem ggX4_lengthByPrints_X3_isOn : GoodIn wsX4_lengthByPrints wsX3_isOn := goodIn_r _ [10, 11, 12, 43, 44, 45, 46, 47, 48, 49, 50, 51, 52] (by decide +kernel) (by decide +kernel)
set_option maxRecDepth 20000 in
theorem gX4_lengthByPrints_X3_isOn : GoodIn wsX4_lengthByPrints (wsV RX4 83 RX3 yX3_isOn wsX3_isOn) := goodIn_app (goodIn_of _ (by decide +kernel)) ggX4_lengthByPrints_X3_isOn
set_option maxRecDepth 20000 in
theorem ggX4_lengthByPrints_X0_before : GoodIn wsX4_lengthByPrints wsX0_before := goodIn_r _ [17, 18, 19, 20, 21, 7, 8, 9, 10, 11, 12, 33, 34, 35, 36, 37, 38, 39, 43, 44, 45, 46, 47, 48, 49, 50, 51, 52] (by decide +kernel) (by decide +kernel)
set_option maxRecDepth 20000 in
theorem gX4_lengthByPrints_X0_before : GoodIn wsX4_lengthByPrints (wsV RX4 15 RX0 yX0_before wsX0_before) := goodIn_app (goodIn_of _ (by decide +kernel)) ggX4_lengthByPrints_X0_before
set_option maxRecDepth 20000 in
theorem ggX4_lengthByPrints_X3_distanceTo : GoodIn wsX4_lengthByPrints wsX3_distanceTo := goodIn_r _ [25, 26, 27, 28, 29, 30, 31, 43, 44, 45, 46, 47, 48, 49, 50, 51, 52] (by decide +kernel) (by decide +kernel)
set_option maxRecDepth 20000 in
theorem gX4_lengthByPrints_X3_distanceTo : GoodIn wsX4_lengthByPrints (wsV RX4 47 RX3 yX3_distanceTo wsX3_distanceTo) := goodIn_app (goodIn_of _ (by decide +kernel)) ggX4_lengthByPrints_X3_distanceTo
theorem dX4_lengthByPrints_0 : decode cX4_lengthByPrints 0 = .ok (.iconst 0, 1) := by decide +kernel
theorem dX4_lengthByPrints_1 : decode cX4_lengthByPrints 1 = .ok (.istore_n 2, 1) := by decide +kernel
theorem dX4_lengthByPrints_2 : decode cX4_lengthByPrints 2 = .ok (.aload_n 0, 1) := by decide +kernel
theorem dX4_lengthByPrints_3 : decode cX4_lengthByPrints 3 = .ok (.getfield 9, 3) := by decide +kernel
theorem dX4_lengthByPrints_6 : decode cX4_lengthByPrints 6 = .ok (.getfield 79, 3) := by decide +kernel
theorem dX4_lengthByPrints_9 : decode cX4_lengthByPrints 9 = .ok (.astore_n 3, 1) := by decide +kernel
theorem dX4_lengthByPrints_10 : decode cX4_lengthByPrints 10 = .ok (.aload_n 3, 1) := by decide +kernel
theorem dX4_lengthByPrints_11 : decode cX4_lengthByPrints 11 = .ok (.arraylength, 1) := by decide +kernel
theorem dX4_lengthByPrints_12 : decode cX4_lengthByPrints 12 = .ok (.istore 4, 2) := by decide +kernel
theorem dX4_lengthByPrints_14 : decode cX4_lengthByPrints 14 = .ok (.iconst 0, 1) := by decide +kernel
theorem dX4_lengthByPrints_15 : decode cX4_lengthByPrints 15 = .ok (.istore 5, 2) := by decide +kernel
theorem dX4_lengthByPrints_17 : decode cX4_lengthByPrints 17 = .ok (.iload 5, 2) := by decide +kernel
theorem dX4_lengthByPrints_19 : decode cX4_lengthByPrints 19 = .ok (.iload 4, 2) := by decide +kernel
theorem dX4_lengthByPrints_21 : decode cX4_lengthByPrints 21 = .ok (.if_icmp .ge 69, 3) := by decide +kernel
theorem dX4_lengthByPrints_24 : decode cX4_lengthByPrints 24 = .ok (.aload_n 3, 1) := by decide +kernel
theorem dX4_lengthByPrints_25 : decode cX4_lengthByPrints 25 = .ok (.iload 5, 2) := by decide +kernel
theorem dX4_lengthByPrints_27 : decode cX4_lengthByPrints 27 = .ok (.aaload, 1) := by decide +kernel
theorem dX4_lengthByPrints_28 : decode cX4_lengthByPrints 28 = .ok (.astore 6, 2) := by decide +kernel
theorem dX4_lengthByPrints_30 : decode cX4_lengthByPrints 30 = .ok (.aload 6, 2) := by decide +kernel
theorem dX4_lengthByPrints_32 : decode cX4_lengthByPrints 32 = .ok (.aload_n 1, 1) := by decide +kernel
theorem dX4_lengthByPrints_33 : decode cX4_lengthByPrints 33 = .ok (.getfield 87, 3) := by decide +kernel
theorem dX4_lengthByPrints_36 : decode cX4_lengthByPrints 36 = .ok (.invokevirtual 83, 3) := by decide +kernel
theorem dX4_lengthByPrints_39 : decode cX4_lengthByPrints 39 = .ok (.ifCond .eq 15, 3) := by decide +kernel
theorem dX4_lengthByPrints_42 : decode cX4_lengthByPrints 42 = .ok (.aload_n 0, 1) := by decide +kernel
theorem dX4_lengthByPrints_43 : decode cX4_lengthByPrints 43 = .ok (.getfield 9, 3) := by decide +kernel
theorem dX4_lengthByPrints_46 : decode cX4_lengthByPrints 46 = .ok (.aload 6, 2) := by decide +kernel
theorem dX4_lengthByPrints_48 : decode cX4_lengthByPrints 48 = .ok (.invokevirtual 15, 3) := by decide +kernel
theorem dX4_lengthByPrints_51 : decode cX4_lengthByPrints 51 = .ok (.goto 4, 3) := by decide +kernel
theorem dX4_lengthByPrints_54 : decode cX4_lengthByPrints 54 = .ok (.aconst_null, 1) := by decide +kernel
theorem dX4_lengthByPrints_55 : decode cX4_lengthByPrints 55 = .ok (.astore 7, 2) := by decide +kernel
theorem dX4_lengthByPrints_57 : decode cX4_lengthByPrints 57 = .ok (.iload_n 2, 1) := by decide +kernel
theorem dX4_lengthByPrints_58 : decode cX4_lengthByPrints 58 = .ok (.aload 7, 2) := by decide +kernel
theorem dX4_lengthByPrints_60 : decode cX4_lengthByPrints 60 = .ok (.ifnonnull 7, 3) := by decide +kernel
theorem dX4_lengthByPrints_63 : decode cX4_lengthByPrints 63 = .ok (.iconst 0, 1) := by decide +kernel
theorem dX4_lengthByPrints_64 : decode cX4_lengthByPrints 64 = .ok (.goto 18, 3) := by decide +kernel
theorem dX4_lengthByPrints_67 : decode cX4_lengthByPrints 67 = .ok (.aload 6, 2) := by decide +kernel
theorem dX4_lengthByPrints_69 : decode cX4_lengthByPrints 69 = .ok (.aload 7, 2) := by decide +kernel
theorem dX4_lengthByPrints_71 : decode cX4_lengthByPrints 71 = .ok (.getfield 41, 3) := by decide +kernel
theorem dX4_lengthByPrints_74 : decode cX4_lengthByPrints 74 = .ok (.aload 7, 2) := by decide +kernel
theorem dX4_lengthByPrints_76 : decode cX4_lengthByPrints 76 = .ok (.getfield 44, 3) := by decide +kernel
theorem dX4_lengthByPrints_79 : decode cX4_lengthByPrints 79 = .ok (.invokevirtual 47, 3) := by decide +kernel
theorem dX4_lengthByPrints_82 : decode cX4_lengthByPrints 82 = .ok (.iadd, 1) := by decide +kernel
theorem dX4_lengthByPrints_83 : decode cX4_lengthByPrints 83 = .ok (.istore_n 2, 1) := by decide +kernel
theorem dX4_lengthByPrints_84 : decode cX4_lengthByPrints 84 = .ok (.iinc 5 1, 3) := by decide +kernel
theorem dX4_lengthByPrints_87 : decode cX4_lengthByPrints 87 = .ok (.goto (-70), 3) := by decide +kernel
theorem dX4_lengthByPrints_90 : decode cX4_lengthByPrints 90 = .ok (.iload_n 2, 1) := by decide +kernel
theorem dX4_lengthByPrints_91 : decode cX4_lengthByPrints 91 = .ok (.ireturn, 1) := by decide +kernel
set_option maxRecDepth 20000 in
theorem ggX4_lengthByDirections_X3_isOn : GoodIn wsX4_lengthByDirections wsX3_isOn := goodIn_r _ [14, 15, 16, 37, 38, 39, 40, 41, 42, 43, 44, 45, 46] (by decide +kernel) (by decide +kernel)
set_option maxRecDepth 20000 in
theorem gX4_lengthByDirections_X3_isOn : GoodIn wsX4_lengthByDirections (wsV RX4 83 RX3 yX3_isOn wsX3_isOn) := goodIn_app (goodIn_of _ (by decide +kernel)) ggX4_lengthByDirections_X3_isOn
set_option maxRecDepth 20000 in
theorem ggX4_lengthByDirections_X0_before : GoodIn wsX4_lengthByDirections wsX0_before := goodIn_r _ [21, 22, 23, 24, 25, 11, 12, 13, 14, 15, 16, 27, 28, 29, 30, 31, 32, 33, 37, 38, 39, 40, 41, 42, 43, 44, 45, 46] (by decide +kernel) (by decide +kernel)
set_option maxRecDepth 20000 in
theorem gX4_lengthByDirections_X0_before : GoodIn wsX4_lengthByDirections (wsV RX4 15 RX0 yX0_before wsX0_before) := goodIn_app (goodIn_of _ (by decide +kernel)) ggX4_lengthByDirections_X0_before
theorem dX4_lengthByDirections_0 : decode cX4_lengthByDirections 0 = .ok (.iconst 0, 1) := by decide +kernel
theorem dX4_lengthByDirections_1 : decode cX4_lengthByDirections 1 = .ok (.istore_n 2, 1) := by decide +kernel
theorem dX4_lengthByDirections_2 : decode cX4_lengthByDirections 2 = .ok (.iconst 0, 1) := by decide +kernel
theorem dX4_lengthByDirections_3 : decode cX4_lengthByDirections 3 = .ok (.istore_n 3, 1) := by decide +kernel
theorem dX4_lengthByDirections_4 : decode cX4_lengthByDirections 4 = .ok (.aload_n 0, 1) := by decide +kernel
theorem dX4_lengthByDirections_5 : decode cX4_lengthByDirections 5 = .ok (.getfield 9, 3) := by decide +kernel
theorem dX4_lengthByDirections_8 : decode cX4_lengthByDirections 8 = .ok (.getfield 79, 3) := by decide +kernel
theorem dX4_lengthByDirections_11 : decode cX4_lengthByDirections 11 = .ok (.astore 4, 2) := by decide +kernel
theorem dX4_lengthByDirections_13 : decode cX4_lengthByDirections 13 = .ok (.aload 4, 2) := by decide +kernel
theorem dX4_lengthByDirections_15 : decode cX4_lengthByDirections 15 = .ok (.arraylength, 1) := by decide +kernel
theorem dX4_lengthByDirections_16 : decode cX4_lengthByDirections 16 = .ok (.istore 5, 2) := by decide +kernel
theorem dX4_lengthByDirections_18 : decode cX4_lengthByDirections 18 = .ok (.iconst 0, 1) := by decide +kernel
theorem dX4_lengthByDirections_19 : decode cX4_lengthByDirections 19 = .ok (.istore 6, 2) := by decide +kernel
theorem dX4_lengthByDirections_21 : decode cX4_lengthByDirections 21 = .ok (.iload 6, 2) := by decide +kernel
theorem dX4_lengthByDirections_23 : decode cX4_lengthByDirections 23 = .ok (.iload 5, 2) := by decide +kernel
theorem dX4_lengthByDirections_25 : decode cX4_lengthByDirections 25 = .ok (.if_icmp .ge 82, 3) := by decide +kernel
theorem dX4_lengthByDirections_28 : decode cX4_lengthByDirections 28 = .ok (.aload 4, 2) := by decide +kernel
theorem dX4_lengthByDirections_30 : decode cX4_lengthByDirections 30 = .ok (.iload 6, 2) := by decide +kernel
theorem dX4_lengthByDirections_32 : decode cX4_lengthByDirections 32 = .ok (.aaload, 1) := by decide +kernel
theorem dX4_lengthByDirections_33 : decode cX4_lengthByDirections 33 = .ok (.astore 7, 2) := by decide +kernel
theorem dX4_lengthByDirections_35 : decode cX4_lengthByDirections 35 = .ok (.aload 7, 2) := by decide +kernel
theorem dX4_lengthByDirections_37 : decode cX4_lengthByDirections 37 = .ok (.aload_n 1, 1) := by decide +kernel
theorem dX4_lengthByDirections_38 : decode cX4_lengthByDirections 38 = .ok (.getfield 87, 3) := by decide +kernel
theorem dX4_lengthByDirections_41 : decode cX4_lengthByDirections 41 = .ok (.invokevirtual 83, 3) := by decide +kernel
theorem dX4_lengthByDirections_44 : decode cX4_lengthByDirections 44 = .ok (.ifCond .eq 15, 3) := by decide +kernel
theorem dX4_lengthByDirections_47 : decode cX4_lengthByDirections 47 = .ok (.aload_n 0, 1) := by decide +kernel
theorem dX4_lengthByDirections_48 : decode cX4_lengthByDirections 48 = .ok (.getfield 9, 3) := by decide +kernel
theorem dX4_lengthByDirections_51 : decode cX4_lengthByDirections 51 = .ok (.aload 7, 2) := by decide +kernel
theorem dX4_lengthByDirections_53 : decode cX4_lengthByDirections 53 = .ok (.invokevirtual 15, 3) := by decide +kernel
theorem dX4_lengthByDirections_56 : decode cX4_lengthByDirections 56 = .ok (.goto 4, 3) := by decide +kernel
theorem dX4_lengthByDirections_59 : decode cX4_lengthByDirections 59 = .ok (.aconst_null, 1) := by decide +kernel
theorem dX4_lengthByDirections_60 : decode cX4_lengthByDirections 60 = .ok (.astore 8, 2) := by decide +kernel
theorem dX4_lengthByDirections_62 : decode cX4_lengthByDirections 62 = .ok (.aload 8, 2) := by decide +kernel
theorem dX4_lengthByDirections_64 : decode cX4_lengthByDirections 64 = .ok (.ifnull 37, 3) := by decide +kernel
theorem dX4_lengthByDirections_67 : decode cX4_lengthByDirections 67 = .ok (.iload_n 2, 1) := by decide +kernel
theorem dX4_lengthByDirections_68 : decode cX4_lengthByDirections 68 = .ok (.aload 7, 2) := by decide +kernel
theorem dX4_lengthByDirections_70 : decode cX4_lengthByDirections 70 = .ok (.getfield 41, 3) := by decide +kernel
theorem dX4_lengthByDirections_73 : decode cX4_lengthByDirections 73 = .ok (.aload 8, 2) := by decide +kernel
theorem dX4_lengthByDirections_75 : decode cX4_lengthByDirections 75 = .ok (.getfield 41, 3) := by decide +kernel
theorem dX4_lengthByDirections_78 : decode cX4_lengthByDirections 78 = .ok (.isub, 1) := by decide +kernel
theorem dX4_lengthByDirections_79 : decode cX4_lengthByDirections 79 = .ok (.invokestatic 63, 3) := by decide +kernel
theorem dX4_lengthByDirections_82 : decode cX4_lengthByDirections 82 = .ok (.iadd, 1) := by decide +kernel
theorem dX4_lengthByDirections_83 : decode cX4_lengthByDirections 83 = .ok (.istore_n 2, 1) := by decide +kernel
theorem dX4_lengthByDirections_84 : decode cX4_lengthByDirections 84 = .ok (.iload_n 3, 1) := by decide +kernel
theorem dX4_lengthByDirections_85 : decode cX4_lengthByDirections 85 = .ok (.aload 7, 2) := by decide +kernel
theorem dX4_lengthByDirections_87 : decode cX4_lengthByDirections 87 = .ok (.getfield 44, 3) := by decide +kernel
theorem dX4_lengthByDirections_90 : decode cX4_lengthByDirections 90 = .ok (.aload 8, 2) := by decide +kernel
theorem dX4_lengthByDirections_92 : decode cX4_lengthByDirections 92 = .ok (.getfield 44, 3) := by decide +kernel
theorem dX4_lengthByDirections_95 : decode cX4_lengthByDirections 95 = .ok (.isub, 1) := by decide +kernel
theorem dX4_lengthByDirections_96 : decode cX4_lengthByDirections 96 = .ok (.invokestatic 63, 3) := by decide +kernel
theorem dX4_lengthByDirections_99 : decode cX4_lengthByDirections 99 = .ok (.iadd, 1) := by decide +kernel
theorem dX4_lengthByDirections_100 : decode cX4_lengthByDirections 100 = .ok (.istore_n 3, 1) := by decide +kernel
theorem dX4_lengthByDirections_101 : decode cX4_lengthByDirections 101 = .ok (.iinc 6 1, 3) := by decide +kernel
theorem dX4_lengthByDirections_104 : decode cX4_lengthByDirections 104 = .ok (.goto (-83), 3) := by decide +kernel
theorem dX4_lengthByDirections_107 : decode cX4_lengthByDirections 107 = .ok (.iload_n 2, 1) := by decide +kernel
theorem dX4_lengthByDirections_108 : decode cX4_lengthByDirections 108 = .ok (.iload_n 3, 1) := by decide +kernel
theorem dX4_lengthByDirections_109 : decode cX4_lengthByDirections 109 = .ok (.iadd, 1) := by decide +kernel
theorem dX4_lengthByDirections_110 : decode cX4_lengthByDirections 110 = .ok (.ireturn, 1) := by decide +kernel
set_option maxRecDepth 20000 in
theorem ggX4_errorsWith_X4_errorsByPrints : GoodIn wsX4_errorsWith wsX4_errorsByPrints := goodIn_r _ [8, 9, 10, 11, 12, 13, 14, 15, 16, 17, 18, 19, 20, 21, 22, 23, 24, 25, 26, 27, 28, 29, 7, 30, 3, 1, 2, 31, 32, 33, 34, 35, 36, 37, 38, 39, 40, 41, 42, 43, 44, 45, 46, 47, 48, 49, 50, 51, 52, 53, 54, 55, 56, 57, 58, 59, 70, 71, 72, 73, 74, 75, 76, 77, 60, 61, 62, 63, 64, 65, 66, 67, 68, 69, 78, 79, 80] (by decide +kernel) (by decide +kernel)
set_option maxRecDepth 20000 in
theorem gX4_errorsWith_X4_errorsByPrints : GoodIn wsX4_errorsWith (wsV RX4 90 RX4 yX4_errorsByPrints wsX4_errorsByPrints) := goodIn_app (goodIn_of _ (by decide +kernel)) ggX4_errorsWith_X4_errorsByPrints
theorem dX4_errorsWith_0 : decode cX4_errorsWith 0 = .ok (.aload_n 1, 1) := by decide +kernel
theorem dX4_errorsWith_1 : decode cX4_errorsWith 1 = .ok (.getfield 41, 3) := by decide +kernel
theorem dX4_errorsWith_4 : decode cX4_errorsWith 4 = .ok (.istore 4, 2) := by decide +kernel
theorem dX4_errorsWith_6 : decode cX4_errorsWith 6 = .ok (.aload_n 1, 1) := by decide +kernel
theorem dX4_errorsWith_7 : decode cX4_errorsWith 7 = .ok (.getfield 44, 3) := by decide +kernel
theorem dX4_errorsWith_10 : decode cX4_errorsWith 10 = .ok (.istore 5, 2) := by decide +kernel
theorem dX4_errorsWith_12 : decode cX4_errorsWith 12 = .ok (.aload_n 1, 1) := by decide +kernel
theorem dX4_errorsWith_13 : decode cX4_errorsWith 13 = .ok (.iload_n 2, 1) := by decide +kernel
theorem dX4_errorsWith_14 : decode cX4_errorsWith 14 = .ok (.putfield 41, 3) := by decide +kernel
theorem dX4_errorsWith_17 : decode cX4_errorsWith 17 = .ok (.aload_n 1, 1) := by decide +kernel
theorem dX4_errorsWith_18 : decode cX4_errorsWith 18 = .ok (.iload_n 3, 1) := by decide +kernel
theorem dX4_errorsWith_19 : decode cX4_errorsWith 19 = .ok (.putfield 44, 3) := by decide +kernel
theorem dX4_errorsWith_22 : decode cX4_errorsWith 22 = .ok (.aload_n 0, 1) := by decide +kernel
theorem dX4_errorsWith_23 : decode cX4_errorsWith 23 = .ok (.aload_n 1, 1) := by decide +kernel
theorem dX4_errorsWith_24 : decode cX4_errorsWith 24 = .ok (.getfield 31, 3) := by decide +kernel
theorem dX4_errorsWith_27 : decode cX4_errorsWith 27 = .ok (.invokevirtual 90, 3) := by decide +kernel
theorem dX4_errorsWith_30 : decode cX4_errorsWith 30 = .ok (.istore 6, 2) := by decide +kernel
theorem dX4_errorsWith_32 : decode cX4_errorsWith 32 = .ok (.aload_n 1, 1) := by decide +kernel
theorem dX4_errorsWith_33 : decode cX4_errorsWith 33 = .ok (.iload 4, 2) := by decide +kernel
theorem dX4_errorsWith_35 : decode cX4_errorsWith 35 = .ok (.putfield 41, 3) := by decide +kernel
theorem dX4_errorsWith_38 : decode cX4_errorsWith 38 = .ok (.aload_n 1, 1) := by decide +kernel
theorem dX4_errorsWith_39 : decode cX4_errorsWith 39 = .ok (.iload 5, 2) := by decide +kernel
theorem dX4_errorsWith_41 : decode cX4_errorsWith 41 = .ok (.putfield 44, 3) := by decide +kernel
theorem dX4_errorsWith_44 : decode cX4_errorsWith 44 = .ok (.iload 6, 2) := by decide +kernel
theorem dX4_errorsWith_46 : decode cX4_errorsWith 46 = .ok (.ireturn, 1) := by decide +kernel
set_option maxRecDepth 20000 in
theorem ggX4_bestCellFor_X4_errorsByPrints : GoodIn wsX4_bestCellFor wsX4_errorsByPrints := goodIn_r _ [9, 4, 10, 11, 12, 13, 14, 15, 16, 17, 18, 19, 20, 21, 22, 23, 24, 25, 26, 27, 28, 29, 8, 30, 3, 1, 2, 31, 32, 33, 34, 35, 36, 37, 38, 39, 40, 41, 42, 43, 44, 45, 46, 47, 48, 49, 50, 51, 52, 53, 54, 55, 56, 57, 58, 59, 114, 115, 116, 117, 118, 119, 120, 121, 104, 105, 106, 107, 108, 109, 110, 111, 112, 113, 122, 123, 124] (by decide +kernel) (by decide +kernel)
set_option maxRecDepth 20000 in
theorem gX4_bestCellFor_X4_errorsByPrints : GoodIn wsX4_bestCellFor (wsV RX4 90 RX4 yX4_errorsByPrints wsX4_errorsByPrints) := goodIn_app (goodIn_of _ (by decide +kernel)) ggX4_bestCellFor_X4_errorsByPrints
set_option maxRecDepth 20000 in
theorem ggX4_bestCellFor_X9_isCell : GoodIn wsX4_bestCellFor wsX9_isCell := goodIn_r _ [62, 63, 64, 61, 65] (by decide +kernel) (by decide +kernel)
set_option maxRecDepth 20000 in
theorem gX4_bestCellFor_X9_isCell_n93 : GoodIn wsX4_bestCellFor (wsX9_isCell) := ggX4_bestCellFor_X9_isCell
set_option maxRecDepth 20000 in
theorem ggX4_bestCellFor_X0_objectionToMove : GoodIn wsX4_bestCellFor wsX0_objectionToMove := goodIn_r _ [69, 70, 71, 72, 73, 40, 41, 14, 42, 43, 44, 45, 46, 47, 48, 74, 75, 76, 77, 78, 79, 80, 81, 82, 83, 84, 85, 21, 86, 87, 88, 89, 90, 91, 92, 93, 94, 95, 96, 23, 97, 98, 99, 125, 126, 127, 104, 105, 106, 107, 108, 109, 110, 111, 112, 113, 115, 116, 117, 118, 119, 120, 121] (by decide +kernel) (by decide +kernel)
set_option maxRecDepth 20000 in
theorem gX4_bestCellFor_X0_objectionToMove : GoodIn wsX4_bestCellFor (wsV RX4 97 RX0 yX0_objectionToMove wsX0_objectionToMove) := goodIn_app (goodIn_of _ (by decide +kernel)) ggX4_bestCellFor_X0_objectionToMove
set_option maxRecDepth 20000 in
theorem ggX4_bestCellFor_X4_errorsWith : GoodIn wsX4_bestCellFor wsX4_errorsWith := goodIn_r _ [103, 1, 2, 3, 5, 6, 7, 8, 9, 4, 10, 11, 12, 13, 14, 15, 16, 17, 18, 19, 20, 21, 22, 23, 24, 25, 26, 27, 28, 29, 30, 31, 32, 33, 34, 35, 36, 37, 38, 39, 40, 41, 42, 43, 44, 45, 46, 47, 48, 49, 50, 51, 52, 53, 54, 55, 56, 57, 58, 59, 104, 105, 106, 107, 108, 109, 110, 111, 112, 113, 114, 115, 116, 117, 118, 119, 120, 121, 122, 123, 124] (by decide +kernel) (by decide +kernel)
set_option maxRecDepth 20000 in
theorem gX4_bestCellFor_X4_errorsWith : GoodIn wsX4_bestCellFor (wsV RX4 101 RX4 yX4_errorsWith wsX4_errorsWith) := goodIn_app (goodIn_of _ (by decide +kernel)) ggX4_bestCellFor_X4_errorsWith
set_option maxRecDepth 20000 in
theorem ggX4_bestCellFor_X3_distanceTo : GoodIn wsX4_bestCellFor wsX3_distanceTo := goodIn_r _ [42, 43, 44, 45, 46, 47, 48, 104, 105, 106, 107, 108, 109, 110, 111, 112, 113] (by decide +kernel) (by decide +kernel)
set_option maxRecDepth 20000 in
theorem gX4_bestCellFor_X3_distanceTo : GoodIn wsX4_bestCellFor (wsV RX4 47 RX3 yX3_distanceTo wsX3_distanceTo) := goodIn_app (goodIn_of _ (by decide +kernel)) ggX4_bestCellFor_X3_distanceTo
theorem dX4_bestCellFor_0 : decode cX4_bestCellFor 0 = .ok (.aload_n 1, 1) := by decide +kernel
theorem dX4_bestCellFor_1 : decode cX4_bestCellFor 1 = .ok (.getfield 41, 3) := by decide +kernel
theorem dX4_bestCellFor_4 : decode cX4_bestCellFor 4 = .ok (.bipush 20, 2) := by decide +kernel
theorem dX4_bestCellFor_6 : decode cX4_bestCellFor 6 = .ok (.imul, 1) := by decide +kernel
theorem dX4_bestCellFor_7 : decode cX4_bestCellFor 7 = .ok (.aload_n 1, 1) := by decide +kernel
theorem dX4_bestCellFor_8 : decode cX4_bestCellFor 8 = .ok (.getfield 44, 3) := by decide +kernel
theorem dX4_bestCellFor_11 : decode cX4_bestCellFor 11 = .ok (.iadd, 1) := by decide +kernel
theorem dX4_bestCellFor_12 : decode cX4_bestCellFor 12 = .ok (.istore_n 2, 1) := by decide +kernel
theorem dX4_bestCellFor_13 : decode cX4_bestCellFor 13 = .ok (.aload_n 0, 1) := by decide +kernel
theorem dX4_bestCellFor_14 : decode cX4_bestCellFor 14 = .ok (.aload_n 1, 1) := by decide +kernel
theorem dX4_bestCellFor_15 : decode cX4_bestCellFor 15 = .ok (.getfield 31, 3) := by decide +kernel
theorem dX4_bestCellFor_18 : decode cX4_bestCellFor 18 = .ok (.invokevirtual 90, 3) := by decide +kernel
theorem dX4_bestCellFor_21 : decode cX4_bestCellFor 21 = .ok (.istore_n 3, 1) := by decide +kernel
theorem dX4_bestCellFor_22 : decode cX4_bestCellFor 22 = .ok (.iconst 0, 1) := by decide +kernel
theorem dX4_bestCellFor_23 : decode cX4_bestCellFor 23 = .ok (.istore 4, 2) := by decide +kernel
theorem dX4_bestCellFor_25 : decode cX4_bestCellFor 25 = .ok (.iconst 0, 1) := by decide +kernel
theorem dX4_bestCellFor_26 : decode cX4_bestCellFor 26 = .ok (.istore 5, 2) := by decide +kernel
theorem dX4_bestCellFor_28 : decode cX4_bestCellFor 28 = .ok (.iload 5, 2) := by decide +kernel
theorem dX4_bestCellFor_30 : decode cX4_bestCellFor 30 = .ok (.bipush 25, 2) := by decide +kernel
theorem dX4_bestCellFor_32 : decode cX4_bestCellFor 32 = .ok (.if_icmp .ge 116, 3) := by decide +kernel
theorem dX4_bestCellFor_35 : decode cX4_bestCellFor 35 = .ok (.aload_n 1, 1) := by decide +kernel
theorem dX4_bestCellFor_36 : decode cX4_bestCellFor 36 = .ok (.getfield 41, 3) := by decide +kernel
theorem dX4_bestCellFor_39 : decode cX4_bestCellFor 39 = .ok (.iconst 2, 1) := by decide +kernel
theorem dX4_bestCellFor_40 : decode cX4_bestCellFor 40 = .ok (.isub, 1) := by decide +kernel
theorem dX4_bestCellFor_41 : decode cX4_bestCellFor 41 = .ok (.iload 5, 2) := by decide +kernel
theorem dX4_bestCellFor_43 : decode cX4_bestCellFor 43 = .ok (.iconst 5, 1) := by decide +kernel
theorem dX4_bestCellFor_44 : decode cX4_bestCellFor 44 = .ok (.idiv, 1) := by decide +kernel
theorem dX4_bestCellFor_45 : decode cX4_bestCellFor 45 = .ok (.iadd, 1) := by decide +kernel
theorem dX4_bestCellFor_46 : decode cX4_bestCellFor 46 = .ok (.istore 6, 2) := by decide +kernel
theorem dX4_bestCellFor_48 : decode cX4_bestCellFor 48 = .ok (.aload_n 1, 1) := by decide +kernel
theorem dX4_bestCellFor_49 : decode cX4_bestCellFor 49 = .ok (.getfield 44, 3) := by decide +kernel
theorem dX4_bestCellFor_52 : decode cX4_bestCellFor 52 = .ok (.iconst 2, 1) := by decide +kernel
theorem dX4_bestCellFor_53 : decode cX4_bestCellFor 53 = .ok (.isub, 1) := by decide +kernel
theorem dX4_bestCellFor_54 : decode cX4_bestCellFor 54 = .ok (.iload 5, 2) := by decide +kernel
theorem dX4_bestCellFor_56 : decode cX4_bestCellFor 56 = .ok (.iconst 5, 1) := by decide +kernel
theorem dX4_bestCellFor_57 : decode cX4_bestCellFor 57 = .ok (.irem, 1) := by decide +kernel
theorem dX4_bestCellFor_58 : decode cX4_bestCellFor 58 = .ok (.iadd, 1) := by decide +kernel
theorem dX4_bestCellFor_59 : decode cX4_bestCellFor 59 = .ok (.istore 7, 2) := by decide +kernel
theorem dX4_bestCellFor_61 : decode cX4_bestCellFor 61 = .ok (.iload 6, 2) := by decide +kernel
theorem dX4_bestCellFor_63 : decode cX4_bestCellFor 63 = .ok (.iload 7, 2) := by decide +kernel
theorem dX4_bestCellFor_65 : decode cX4_bestCellFor 65 = .ok (.invokestatic 93, 3) := by decide +kernel
theorem dX4_bestCellFor_68 : decode cX4_bestCellFor 68 = .ok (.ifCond .eq 74, 3) := by decide +kernel
theorem dX4_bestCellFor_71 : decode cX4_bestCellFor 71 = .ok (.aload_n 0, 1) := by decide +kernel
theorem dX4_bestCellFor_72 : decode cX4_bestCellFor 72 = .ok (.getfield 9, 3) := by decide +kernel
theorem dX4_bestCellFor_75 : decode cX4_bestCellFor 75 = .ok (.aload_n 1, 1) := by decide +kernel
theorem dX4_bestCellFor_76 : decode cX4_bestCellFor 76 = .ok (.iload 6, 2) := by decide +kernel
theorem dX4_bestCellFor_78 : decode cX4_bestCellFor 78 = .ok (.iload 7, 2) := by decide +kernel
theorem dX4_bestCellFor_80 : decode cX4_bestCellFor 80 = .ok (.invokevirtual 97, 3) := by decide +kernel
theorem dX4_bestCellFor_83 : decode cX4_bestCellFor 83 = .ok (.ifnonnull 59, 3) := by decide +kernel
theorem dX4_bestCellFor_86 : decode cX4_bestCellFor 86 = .ok (.aload_n 0, 1) := by decide +kernel
theorem dX4_bestCellFor_87 : decode cX4_bestCellFor 87 = .ok (.aload_n 1, 1) := by decide +kernel
theorem dX4_bestCellFor_88 : decode cX4_bestCellFor 88 = .ok (.iload 6, 2) := by decide +kernel
theorem dX4_bestCellFor_90 : decode cX4_bestCellFor 90 = .ok (.iload 7, 2) := by decide +kernel
theorem dX4_bestCellFor_92 : decode cX4_bestCellFor 92 = .ok (.invokevirtual 101, 3) := by decide +kernel
theorem dX4_bestCellFor_95 : decode cX4_bestCellFor 95 = .ok (.istore 8, 2) := by decide +kernel
theorem dX4_bestCellFor_97 : decode cX4_bestCellFor 97 = .ok (.aload_n 1, 1) := by decide +kernel
theorem dX4_bestCellFor_98 : decode cX4_bestCellFor 98 = .ok (.iload 6, 2) := by decide +kernel
theorem dX4_bestCellFor_100 : decode cX4_bestCellFor 100 = .ok (.iload 7, 2) := by decide +kernel
theorem dX4_bestCellFor_102 : decode cX4_bestCellFor 102 = .ok (.invokevirtual 47, 3) := by decide +kernel
theorem dX4_bestCellFor_105 : decode cX4_bestCellFor 105 = .ok (.istore 9, 2) := by decide +kernel
theorem dX4_bestCellFor_107 : decode cX4_bestCellFor 107 = .ok (.iload 8, 2) := by decide +kernel
theorem dX4_bestCellFor_109 : decode cX4_bestCellFor 109 = .ok (.iload_n 3, 1) := by decide +kernel
theorem dX4_bestCellFor_110 : decode cX4_bestCellFor 110 = .ok (.if_icmp .lt 16, 3) := by decide +kernel
theorem dX4_bestCellFor_113 : decode cX4_bestCellFor 113 = .ok (.iload 8, 2) := by decide +kernel
theorem dX4_bestCellFor_115 : decode cX4_bestCellFor 115 = .ok (.iload_n 3, 1) := by decide +kernel
theorem dX4_bestCellFor_116 : decode cX4_bestCellFor 116 = .ok (.if_icmp .ne 26, 3) := by decide +kernel
theorem dX4_bestCellFor_119 : decode cX4_bestCellFor 119 = .ok (.iload 9, 2) := by decide +kernel
theorem dX4_bestCellFor_121 : decode cX4_bestCellFor 121 = .ok (.iload 4, 2) := by decide +kernel
theorem dX4_bestCellFor_123 : decode cX4_bestCellFor 123 = .ok (.if_icmp .ge 19, 3) := by decide +kernel
theorem dX4_bestCellFor_126 : decode cX4_bestCellFor 126 = .ok (.iload 6, 2) := by decide +kernel
theorem dX4_bestCellFor_128 : decode cX4_bestCellFor 128 = .ok (.bipush 20, 2) := by decide +kernel
theorem dX4_bestCellFor_130 : decode cX4_bestCellFor 130 = .ok (.imul, 1) := by decide +kernel
theorem dX4_bestCellFor_131 : decode cX4_bestCellFor 131 = .ok (.iload 7, 2) := by decide +kernel
theorem dX4_bestCellFor_133 : decode cX4_bestCellFor 133 = .ok (.iadd, 1) := by decide +kernel
theorem dX4_bestCellFor_134 : decode cX4_bestCellFor 134 = .ok (.istore_n 2, 1) := by decide +kernel
theorem dX4_bestCellFor_135 : decode cX4_bestCellFor 135 = .ok (.iload 8, 2) := by decide +kernel
theorem dX4_bestCellFor_137 : decode cX4_bestCellFor 137 = .ok (.istore_n 3, 1) := by decide +kernel
theorem dX4_bestCellFor_138 : decode cX4_bestCellFor 138 = .ok (.iload 9, 2) := by decide +kernel
theorem dX4_bestCellFor_140 : decode cX4_bestCellFor 140 = .ok (.istore 4, 2) := by decide +kernel
theorem dX4_bestCellFor_142 : decode cX4_bestCellFor 142 = .ok (.iinc 5 1, 3) := by decide +kernel
theorem dX4_bestCellFor_145 : decode cX4_bestCellFor 145 = .ok (.goto (-117), 3) := by decide +kernel
theorem dX4_bestCellFor_148 : decode cX4_bestCellFor 148 = .ok (.iload_n 2, 1) := by decide +kernel
theorem dX4_bestCellFor_149 : decode cX4_bestCellFor 149 = .ok (.ireturn, 1) := by decide +kernel
set_option maxRecDepth 20000 in
theorem ggX4_countAheadOf_X4_errorsByPrints : GoodIn wsX4_countAheadOf wsX4_errorsByPrints := goodIn_r _ [9, 2, 10, 11, 12, 13, 14, 15, 16, 17, 18, 19, 20, 21, 22, 23, 24, 25, 26, 27, 28, 29, 8, 30, 31, 32, 33, 34, 35, 36, 37, 38, 39, 40, 41, 42, 43, 44, 45, 46, 47, 48, 49, 50, 51, 52, 53, 54, 55, 56, 57, 58, 59, 60, 61, 62, 74, 75, 76, 77, 78, 79, 80, 81, 82, 83, 84, 85, 86, 87, 88, 89, 90, 91, 71, 72, 73] (by decide +kernel) (by decide +kernel)
set_option maxRecDepth 20000 in
theorem gX4_countAheadOf_X4_errorsByPrints : GoodIn wsX4_countAheadOf (wsV RX4 90 RX4 yX4_errorsByPrints wsX4_errorsByPrints) := goodIn_app (goodIn_of _ (by decide +kernel)) ggX4_countAheadOf_X4_errorsByPrints
set_option maxRecDepth 20000 in
theorem ggX4_countAheadOf_X0_countPrints : GoodIn wsX4_countAheadOf wsX0_countPrints := goodIn_r _ [66, 41, 67, 68, 69, 21, 70, 23, 25, 26, 12, 13, 14, 15, 16, 17, 71, 72, 73, 75, 76, 77, 78, 79, 80, 81, 82, 83, 84, 85, 86, 87, 88, 89, 90, 91] (by decide +kernel) (by decide +kernel)
set_option maxRecDepth 20000 in
theorem gX4_countAheadOf_X0_countPrints : GoodIn wsX4_countAheadOf (wsV RX4 105 RX0 yX0_countPrints wsX0_countPrints) := goodIn_app (goodIn_of _ (by decide +kernel)) ggX4_countAheadOf_X0_countPrints
theorem dX4_countAheadOf_0 : decode cX4_countAheadOf 0 = .ok (.aload_n 0, 1) := by decide +kernel
theorem dX4_countAheadOf_1 : decode cX4_countAheadOf 1 = .ok (.aload_n 1, 1) := by decide +kernel
theorem dX4_countAheadOf_2 : decode cX4_countAheadOf 2 = .ok (.getfield 87, 3) := by decide +kernel
theorem dX4_countAheadOf_5 : decode cX4_countAheadOf 5 = .ok (.invokevirtual 90, 3) := by decide +kernel
theorem dX4_countAheadOf_8 : decode cX4_countAheadOf 8 = .ok (.istore_n 2, 1) := by decide +kernel
theorem dX4_countAheadOf_9 : decode cX4_countAheadOf 9 = .ok (.aload_n 0, 1) := by decide +kernel
theorem dX4_countAheadOf_10 : decode cX4_countAheadOf 10 = .ok (.getfield 9, 3) := by decide +kernel
theorem dX4_countAheadOf_13 : decode cX4_countAheadOf 13 = .ok (.aload_n 1, 1) := by decide +kernel
theorem dX4_countAheadOf_14 : decode cX4_countAheadOf 14 = .ok (.invokevirtual 105, 3) := by decide +kernel
theorem dX4_countAheadOf_17 : decode cX4_countAheadOf 17 = .ok (.istore_n 3, 1) := by decide +kernel
theorem dX4_countAheadOf_18 : decode cX4_countAheadOf 18 = .ok (.iconst 0, 1) := by decide +kernel
theorem dX4_countAheadOf_19 : decode cX4_countAheadOf 19 = .ok (.istore 4, 2) := by decide +kernel
theorem dX4_countAheadOf_21 : decode cX4_countAheadOf 21 = .ok (.aload_n 0, 1) := by decide +kernel
theorem dX4_countAheadOf_22 : decode cX4_countAheadOf 22 = .ok (.getfield 9, 3) := by decide +kernel
theorem dX4_countAheadOf_25 : decode cX4_countAheadOf 25 = .ok (.getfield 109, 3) := by decide +kernel
theorem dX4_countAheadOf_28 : decode cX4_countAheadOf 28 = .ok (.astore 5, 2) := by decide +kernel
theorem dX4_countAheadOf_30 : decode cX4_countAheadOf 30 = .ok (.aload 5, 2) := by decide +kernel
theorem dX4_countAheadOf_32 : decode cX4_countAheadOf 32 = .ok (.arraylength, 1) := by decide +kernel
theorem dX4_countAheadOf_33 : decode cX4_countAheadOf 33 = .ok (.istore 6, 2) := by decide +kernel
theorem dX4_countAheadOf_35 : decode cX4_countAheadOf 35 = .ok (.iconst 0, 1) := by decide +kernel
theorem dX4_countAheadOf_36 : decode cX4_countAheadOf 36 = .ok (.istore 7, 2) := by decide +kernel
theorem dX4_countAheadOf_38 : decode cX4_countAheadOf 38 = .ok (.iload 7, 2) := by decide +kernel
theorem dX4_countAheadOf_40 : decode cX4_countAheadOf 40 = .ok (.iload 6, 2) := by decide +kernel
theorem dX4_countAheadOf_42 : decode cX4_countAheadOf 42 = .ok (.if_icmp .ge 97, 3) := by decide +kernel
theorem dX4_countAheadOf_45 : decode cX4_countAheadOf 45 = .ok (.aload 5, 2) := by decide +kernel
theorem dX4_countAheadOf_47 : decode cX4_countAheadOf 47 = .ok (.iload 7, 2) := by decide +kernel
theorem dX4_countAheadOf_49 : decode cX4_countAheadOf 49 = .ok (.aaload, 1) := by decide +kernel
theorem dX4_countAheadOf_50 : decode cX4_countAheadOf 50 = .ok (.astore 8, 2) := by decide +kernel
theorem dX4_countAheadOf_52 : decode cX4_countAheadOf 52 = .ok (.aload_n 0, 1) := by decide +kernel
theorem dX4_countAheadOf_53 : decode cX4_countAheadOf 53 = .ok (.aload 8, 2) := by decide +kernel
theorem dX4_countAheadOf_55 : decode cX4_countAheadOf 55 = .ok (.getfield 87, 3) := by decide +kernel
theorem dX4_countAheadOf_58 : decode cX4_countAheadOf 58 = .ok (.invokevirtual 90, 3) := by decide +kernel
theorem dX4_countAheadOf_61 : decode cX4_countAheadOf 61 = .ok (.iload_n 2, 1) := by decide +kernel
theorem dX4_countAheadOf_62 : decode cX4_countAheadOf 62 = .ok (.isub, 1) := by decide +kernel
theorem dX4_countAheadOf_63 : decode cX4_countAheadOf 63 = .ok (.istore 9, 2) := by decide +kernel
theorem dX4_countAheadOf_65 : decode cX4_countAheadOf 65 = .ok (.aload_n 0, 1) := by decide +kernel
theorem dX4_countAheadOf_66 : decode cX4_countAheadOf 66 = .ok (.getfield 9, 3) := by decide +kernel
theorem dX4_countAheadOf_69 : decode cX4_countAheadOf 69 = .ok (.aload 8, 2) := by decide +kernel
theorem dX4_countAheadOf_71 : decode cX4_countAheadOf 71 = .ok (.invokevirtual 105, 3) := by decide +kernel
theorem dX4_countAheadOf_74 : decode cX4_countAheadOf 74 = .ok (.iload_n 3, 1) := by decide +kernel
theorem dX4_countAheadOf_75 : decode cX4_countAheadOf 75 = .ok (.isub, 1) := by decide +kernel
theorem dX4_countAheadOf_76 : decode cX4_countAheadOf 76 = .ok (.istore 10, 2) := by decide +kernel
theorem dX4_countAheadOf_78 : decode cX4_countAheadOf 78 = .ok (.iload 9, 2) := by decide +kernel
theorem dX4_countAheadOf_80 : decode cX4_countAheadOf 80 = .ok (.ifCond .eq 8, 3) := by decide +kernel
theorem dX4_countAheadOf_83 : decode cX4_countAheadOf 83 = .ok (.iload 9, 2) := by decide +kernel
theorem dX4_countAheadOf_85 : decode cX4_countAheadOf 85 = .ok (.goto 23, 3) := by decide +kernel
theorem dX4_countAheadOf_88 : decode cX4_countAheadOf 88 = .ok (.iload 10, 2) := by decide +kernel
theorem dX4_countAheadOf_90 : decode cX4_countAheadOf 90 = .ok (.ifCond .eq 8, 3) := by decide +kernel
theorem dX4_countAheadOf_93 : decode cX4_countAheadOf 93 = .ok (.iload 10, 2) := by decide +kernel
theorem dX4_countAheadOf_95 : decode cX4_countAheadOf 95 = .ok (.goto 13, 3) := by decide +kernel
theorem dX4_countAheadOf_98 : decode cX4_countAheadOf 98 = .ok (.aload_n 1, 1) := by decide +kernel
theorem dX4_countAheadOf_99 : decode cX4_countAheadOf 99 = .ok (.getfield 87, 3) := by decide +kernel
theorem dX4_countAheadOf_102 : decode cX4_countAheadOf 102 = .ok (.aload 8, 2) := by decide +kernel
theorem dX4_countAheadOf_104 : decode cX4_countAheadOf 104 = .ok (.getfield 87, 3) := by decide +kernel
theorem dX4_countAheadOf_107 : decode cX4_countAheadOf 107 = .ok (.isub, 1) := by decide +kernel
theorem dX4_countAheadOf_108 : decode cX4_countAheadOf 108 = .ok (.istore 11, 2) := by decide +kernel
theorem dX4_countAheadOf_110 : decode cX4_countAheadOf 110 = .ok (.iload 4, 2) := by decide +kernel
theorem dX4_countAheadOf_112 : decode cX4_countAheadOf 112 = .ok (.aload 8, 2) := by decide +kernel
theorem dX4_countAheadOf_114 : decode cX4_countAheadOf 114 = .ok (.getfield 113, 3) := by decide +kernel
theorem dX4_countAheadOf_117 : decode cX4_countAheadOf 117 = .ok (.ifCond .eq 12, 3) := by decide +kernel
theorem dX4_countAheadOf_120 : decode cX4_countAheadOf 120 = .ok (.iload 11, 2) := by decide +kernel
theorem dX4_countAheadOf_122 : decode cX4_countAheadOf 122 = .ok (.ifCond .le 7, 3) := by decide +kernel
theorem dX4_countAheadOf_125 : decode cX4_countAheadOf 125 = .ok (.iconst 1, 1) := by decide +kernel
theorem dX4_countAheadOf_126 : decode cX4_countAheadOf 126 = .ok (.goto 4, 3) := by decide +kernel
theorem dX4_countAheadOf_129 : decode cX4_countAheadOf 129 = .ok (.iconst 0, 1) := by decide +kernel
theorem dX4_countAheadOf_130 : decode cX4_countAheadOf 130 = .ok (.iadd, 1) := by decide +kernel
theorem dX4_countAheadOf_131 : decode cX4_countAheadOf 131 = .ok (.istore 4, 2) := by decide +kernel
theorem dX4_countAheadOf_133 : decode cX4_countAheadOf 133 = .ok (.iinc 7 1, 3) := by decide +kernel
theorem dX4_countAheadOf_136 : decode cX4_countAheadOf 136 = .ok (.goto (-98), 3) := by decide +kernel
theorem dX4_countAheadOf_139 : decode cX4_countAheadOf 139 = .ok (.iload 4, 2) := by decide +kernel
theorem dX4_countAheadOf_141 : decode cX4_countAheadOf 141 = .ok (.ireturn, 1) := by decide +kernel
set_option maxRecDepth 20000 in
theorem ggX4_holds_X4_trackHolds : GoodIn wsX4_holds wsX4_trackHolds := goodIn_r _ [12, 13, 14, 15, 16, 11, 17, 1, 4, 6, 7, 18, 19, 20, 21, 22, 23, 24, 25, 26, 27, 28, 29, 30, 31, 32, 33, 34, 35, 36, 37, 38, 39, 40, 41, 42, 43, 44, 45, 46, 47, 48, 49, 50, 51, 52, 53, 54, 55, 56, 57, 58, 59, 60, 61, 62, 63, 64, 65, 66, 67, 68, 69, 70, 71, 72, 73, 74, 75, 76, 77, 78, 79, 80, 81, 82, 83, 84, 85, 86, 87, 88, 89, 90, 91, 92, 93, 94, 95, 96, 117, 118, 119, 109, 110, 111, 112, 113, 114, 115, 116, 120, 121, 122, 123, 124, 125, 126, 127, 128, 129] (by decide +kernel) (by decide +kernel)
set_option maxRecDepth 20000 in
theorem gX4_holds_X4_trackHolds : GoodIn wsX4_holds (wsV RX4 116 RX4 yX4_trackHolds wsX4_trackHolds) := goodIn_app (goodIn_of _ (by decide +kernel)) ggX4_holds_X4_trackHolds
set_option maxRecDepth 20000 in
theorem ggX4_holds_X0_isUnderWater : GoodIn wsX4_holds wsX0_isUnderWater := goodIn_r _ [100, 101, 110, 111, 112, 113, 114, 115, 116] (by decide +kernel) (by decide +kernel)
set_option maxRecDepth 20000 in
theorem gX4_holds_X0_isUnderWater : GoodIn wsX4_holds (wsV RX4 121 RX0 yX0_isUnderWater wsX0_isUnderWater) := goodIn_app (goodIn_of _ (by decide +kernel)) ggX4_holds_X0_isUnderWater
set_option maxRecDepth 20000 in
theorem ggX4_holds_X0_inCell : GoodIn wsX4_holds wsX0_inCell := goodIn_r _ [105, 30, 106, 107, 108, 110, 111, 112, 113, 114, 115, 116, 120, 121, 122, 123, 124, 125, 126, 127, 128, 129] (by decide +kernel) (by decide +kernel)
set_option maxRecDepth 20000 in
theorem gX4_holds_X0_inCell : GoodIn wsX4_holds (wsV RX4 124 RX0 yX0_inCell wsX0_inCell) := goodIn_app (goodIn_of _ (by decide +kernel)) ggX4_holds_X0_inCell
theorem dX4_holds_0 : decode cX4_holds 0 = .ok (.aload_n 0, 1) := by decide +kernel
theorem dX4_holds_1 : decode cX4_holds 1 = .ok (.getfield 9, 3) := by decide +kernel
theorem dX4_holds_4 : decode cX4_holds 4 = .ok (.getfield 109, 3) := by decide +kernel
theorem dX4_holds_7 : decode cX4_holds 7 = .ok (.astore_n 1, 1) := by decide +kernel
theorem dX4_holds_8 : decode cX4_holds 8 = .ok (.aload_n 1, 1) := by decide +kernel
theorem dX4_holds_9 : decode cX4_holds 9 = .ok (.arraylength, 1) := by decide +kernel
theorem dX4_holds_10 : decode cX4_holds 10 = .ok (.istore_n 2, 1) := by decide +kernel
theorem dX4_holds_11 : decode cX4_holds 11 = .ok (.iconst 0, 1) := by decide +kernel
theorem dX4_holds_12 : decode cX4_holds 12 = .ok (.istore_n 3, 1) := by decide +kernel
theorem dX4_holds_13 : decode cX4_holds 13 = .ok (.iload_n 3, 1) := by decide +kernel
theorem dX4_holds_14 : decode cX4_holds 14 = .ok (.iload_n 2, 1) := by decide +kernel
theorem dX4_holds_15 : decode cX4_holds 15 = .ok (.if_icmp .ge 33, 3) := by decide +kernel
theorem dX4_holds_18 : decode cX4_holds 18 = .ok (.aload_n 1, 1) := by decide +kernel
theorem dX4_holds_19 : decode cX4_holds 19 = .ok (.iload_n 3, 1) := by decide +kernel
theorem dX4_holds_20 : decode cX4_holds 20 = .ok (.aaload, 1) := by decide +kernel
theorem dX4_holds_21 : decode cX4_holds 21 = .ok (.astore 4, 2) := by decide +kernel
theorem dX4_holds_23 : decode cX4_holds 23 = .ok (.aload 4, 2) := by decide +kernel
theorem dX4_holds_25 : decode cX4_holds 25 = .ok (.getfield 113, 3) := by decide +kernel
theorem dX4_holds_28 : decode cX4_holds 28 = .ok (.ifCond .eq 14, 3) := by decide +kernel
theorem dX4_holds_31 : decode cX4_holds 31 = .ok (.aload_n 0, 1) := by decide +kernel
theorem dX4_holds_32 : decode cX4_holds 32 = .ok (.aload 4, 2) := by decide +kernel
theorem dX4_holds_34 : decode cX4_holds 34 = .ok (.invokevirtual 116, 3) := by decide +kernel
theorem dX4_holds_37 : decode cX4_holds 37 = .ok (.ifCond .ne 5, 3) := by decide +kernel
theorem dX4_holds_40 : decode cX4_holds 40 = .ok (.iconst 0, 1) := by decide +kernel
theorem dX4_holds_41 : decode cX4_holds 41 = .ok (.ireturn, 1) := by decide +kernel
theorem dX4_holds_42 : decode cX4_holds 42 = .ok (.iinc 3 1, 3) := by decide +kernel
theorem dX4_holds_45 : decode cX4_holds 45 = .ok (.goto (-32), 3) := by decide +kernel
theorem dX4_holds_48 : decode cX4_holds 48 = .ok (.aload_n 0, 1) := by decide +kernel
theorem dX4_holds_49 : decode cX4_holds 49 = .ok (.getfield 9, 3) := by decide +kernel
theorem dX4_holds_52 : decode cX4_holds 52 = .ok (.getfield 79, 3) := by decide +kernel
theorem dX4_holds_55 : decode cX4_holds 55 = .ok (.astore_n 1, 1) := by decide +kernel
theorem dX4_holds_56 : decode cX4_holds 56 = .ok (.aload_n 1, 1) := by decide +kernel
theorem dX4_holds_57 : decode cX4_holds 57 = .ok (.arraylength, 1) := by decide +kernel
theorem dX4_holds_58 : decode cX4_holds 58 = .ok (.istore_n 2, 1) := by decide +kernel
theorem dX4_holds_59 : decode cX4_holds 59 = .ok (.iconst 0, 1) := by decide +kernel
theorem dX4_holds_60 : decode cX4_holds 60 = .ok (.istore_n 3, 1) := by decide +kernel
theorem dX4_holds_61 : decode cX4_holds 61 = .ok (.iload_n 3, 1) := by decide +kernel
theorem dX4_holds_62 : decode cX4_holds 62 = .ok (.iload_n 2, 1) := by decide +kernel
theorem dX4_holds_63 : decode cX4_holds 63 = .ok (.if_icmp .ge 61, 3) := by decide +kernel
theorem dX4_holds_66 : decode cX4_holds 66 = .ok (.aload_n 1, 1) := by decide +kernel
theorem dX4_holds_67 : decode cX4_holds 67 = .ok (.iload_n 3, 1) := by decide +kernel
theorem dX4_holds_68 : decode cX4_holds 68 = .ok (.aaload, 1) := by decide +kernel
theorem dX4_holds_69 : decode cX4_holds 69 = .ok (.astore 4, 2) := by decide +kernel
theorem dX4_holds_71 : decode cX4_holds 71 = .ok (.aload 4, 2) := by decide +kernel
theorem dX4_holds_73 : decode cX4_holds 73 = .ok (.getfield 120, 3) := by decide +kernel
theorem dX4_holds_76 : decode cX4_holds 76 = .ok (.ifCond .eq 42, 3) := by decide +kernel
theorem dX4_holds_79 : decode cX4_holds 79 = .ok (.aload_n 0, 1) := by decide +kernel
theorem dX4_holds_80 : decode cX4_holds 80 = .ok (.getfield 9, 3) := by decide +kernel
theorem dX4_holds_83 : decode cX4_holds 83 = .ok (.aload 4, 2) := by decide +kernel
theorem dX4_holds_85 : decode cX4_holds 85 = .ok (.getfield 41, 3) := by decide +kernel
theorem dX4_holds_88 : decode cX4_holds 88 = .ok (.invokevirtual 121, 3) := by decide +kernel
theorem dX4_holds_91 : decode cX4_holds 91 = .ok (.ifCond .ne 25, 3) := by decide +kernel
theorem dX4_holds_94 : decode cX4_holds 94 = .ok (.aload_n 0, 1) := by decide +kernel
theorem dX4_holds_95 : decode cX4_holds 95 = .ok (.getfield 9, 3) := by decide +kernel
theorem dX4_holds_98 : decode cX4_holds 98 = .ok (.aload 4, 2) := by decide +kernel
theorem dX4_holds_100 : decode cX4_holds 100 = .ok (.getfield 41, 3) := by decide +kernel
theorem dX4_holds_103 : decode cX4_holds 103 = .ok (.aload 4, 2) := by decide +kernel
theorem dX4_holds_105 : decode cX4_holds 105 = .ok (.getfield 44, 3) := by decide +kernel
theorem dX4_holds_108 : decode cX4_holds 108 = .ok (.invokevirtual 124, 3) := by decide +kernel
theorem dX4_holds_111 : decode cX4_holds 111 = .ok (.aload 4, 2) := by decide +kernel
theorem dX4_holds_113 : decode cX4_holds 113 = .ok (.if_acmp .eq 5, 3) := by decide +kernel
theorem dX4_holds_116 : decode cX4_holds 116 = .ok (.iconst 0, 1) := by decide +kernel
theorem dX4_holds_117 : decode cX4_holds 117 = .ok (.ireturn, 1) := by decide +kernel
theorem dX4_holds_118 : decode cX4_holds 118 = .ok (.iinc 3 1, 3) := by decide +kernel
theorem dX4_holds_121 : decode cX4_holds 121 = .ok (.goto (-60), 3) := by decide +kernel
theorem dX4_holds_124 : decode cX4_holds 124 = .ok (.iconst 1, 1) := by decide +kernel
theorem dX4_holds_125 : decode cX4_holds 125 = .ok (.ireturn, 1) := by decide +kernel
set_option maxRecDepth 20000 in
theorem ggX4_trackHolds_X4_lengthByPrints : GoodIn wsX4_trackHolds wsX4_lengthByPrints := goodIn_r _ [6, 7, 8, 1, 9, 10, 11, 12, 13, 14, 15, 16, 17, 18, 19, 20, 21, 22, 23, 24, 25, 26, 27, 28, 29, 30, 31, 32, 33, 34, 35, 36, 93, 94, 95, 96, 97, 98, 99, 100, 90, 91, 92, 101, 102, 103, 104, 105, 106, 107, 108, 109, 110] (by decide +kernel) (by decide +kernel)
set_option maxRecDepth 20000 in
theorem gX4_trackHolds_X4_lengthByPrints : GoodIn wsX4_trackHolds (wsV RX4 128 RX4 yX4_lengthByPrints wsX4_lengthByPrints) := goodIn_app (goodIn_of _ (by decide +kernel)) ggX4_trackHolds_X4_lengthByPrints
set_option maxRecDepth 20000 in
theorem ggX4_trackHolds_X4_lengthByDirections : GoodIn wsX4_trackHolds wsX4_lengthByDirections := goodIn_r _ [40, 7, 8, 1, 9, 41, 33, 34, 35, 10, 11, 12, 13, 14, 15, 16, 17, 18, 19, 20, 21, 22, 23, 24, 25, 26, 93, 94, 95, 96, 97, 98, 99, 100, 90, 91, 92, 101, 102, 103, 104, 105, 106, 107, 108, 109, 110] (by decide +kernel) (by decide +kernel)
set_option maxRecDepth 20000 in
theorem gX4_trackHolds_X4_lengthByDirections : GoodIn wsX4_trackHolds (wsV RX4 131 RX4 yX4_lengthByDirections wsX4_lengthByDirections) := goodIn_app (goodIn_of _ (by decide +kernel)) ggX4_trackHolds_X4_lengthByDirections
set_option maxRecDepth 20000 in
theorem ggX4_trackHolds_X4_errorsByPrints : GoodIn wsX4_trackHolds wsX4_errorsByPrints := goodIn_r _ [45, 7, 8, 11, 12, 13, 14, 15, 16, 17, 18, 19, 20, 21, 22, 23, 24, 25, 26, 46, 47, 48, 5, 49, 50, 9, 10, 51, 52, 53, 54, 55, 56, 57, 58, 27, 28, 29, 30, 31, 32, 33, 34, 35, 36, 59, 60, 61, 62, 63, 64, 65, 66, 67, 68, 41, 93, 94, 95, 96, 97, 98, 99, 100, 101, 102, 103, 104, 105, 106, 107, 108, 109, 110, 90, 91, 92] (by decide +kernel) (by decide +kernel)
set_option maxRecDepth 20000 in
theorem gX4_trackHolds_X4_errorsByPrints : GoodIn wsX4_trackHolds (wsV RX4 90 RX4 yX4_errorsByPrints wsX4_errorsByPrints) := goodIn_app (goodIn_of _ (by decide +kernel)) ggX4_trackHolds_X4_errorsByPrints
set_option maxRecDepth 20000 in
theorem ggX4_trackHolds_X4_errorsByKinds : GoodIn wsX4_trackHolds wsX4_errorsByKinds := goodIn_r _ [72, 7, 8, 11, 12, 13, 14, 15, 16, 17, 18, 19, 20, 21, 22, 23, 24, 25, 26, 46, 47, 48, 5, 49, 50, 9, 10, 51, 52, 53, 54, 55, 56, 57, 58, 27, 28, 29, 30, 31, 32, 33, 34, 35, 36, 59, 60, 61, 62, 63, 64, 65, 66, 67, 68, 41, 93, 94, 95, 96, 97, 98, 99, 100, 101, 102, 103, 104, 105, 106, 107, 108, 109, 110, 90, 91, 92] (by decide +kernel) (by decide +kernel)
set_option maxRecDepth 20000 in
theorem gX4_trackHolds_X4_errorsByKinds : GoodIn wsX4_trackHolds (wsV RX4 134 RX4 yX4_errorsByKinds wsX4_errorsByKinds) := goodIn_app (goodIn_of _ (by decide +kernel)) ggX4_trackHolds_X4_errorsByKinds
set_option maxRecDepth 20000 in
theorem ggX4_trackHolds_X4_isInTimeOrder : GoodIn wsX4_trackHolds wsX4_isInTimeOrder := goodIn_r _ [76, 7, 77, 78, 79, 80, 21, 81, 58, 82, 83, 84, 85, 23, 25, 26, 12, 13, 14, 15, 16, 17, 86, 87, 88, 89, 93, 101, 102, 103, 104, 105, 106, 107, 108, 109, 110, 90, 91, 92, 94, 95, 96, 97, 98, 99, 100] (by decide +kernel) (by decide +kernel)
set_option maxRecDepth 20000 in
theorem gX4_trackHolds_X4_isInTimeOrder : GoodIn wsX4_trackHolds (wsV RX4 137 RX4 yX4_isInTimeOrder wsX4_isInTimeOrder) := goodIn_app (goodIn_of _ (by decide +kernel)) ggX4_trackHolds_X4_isInTimeOrder
theorem dX4_trackHolds_0 : decode cX4_trackHolds 0 = .ok (.aload_n 0, 1) := by decide +kernel
theorem dX4_trackHolds_1 : decode cX4_trackHolds 1 = .ok (.aload_n 1, 1) := by decide +kernel
theorem dX4_trackHolds_2 : decode cX4_trackHolds 2 = .ok (.invokevirtual 128, 3) := by decide +kernel
theorem dX4_trackHolds_5 : decode cX4_trackHolds 5 = .ok (.aload_n 0, 1) := by decide +kernel
theorem dX4_trackHolds_6 : decode cX4_trackHolds 6 = .ok (.aload_n 1, 1) := by decide +kernel
theorem dX4_trackHolds_7 : decode cX4_trackHolds 7 = .ok (.invokevirtual 131, 3) := by decide +kernel
theorem dX4_trackHolds_10 : decode cX4_trackHolds 10 = .ok (.if_icmp .ne 34, 3) := by decide +kernel
theorem dX4_trackHolds_13 : decode cX4_trackHolds 13 = .ok (.aload_n 0, 1) := by decide +kernel
theorem dX4_trackHolds_14 : decode cX4_trackHolds 14 = .ok (.aload_n 1, 1) := by decide +kernel
theorem dX4_trackHolds_15 : decode cX4_trackHolds 15 = .ok (.getfield 87, 3) := by decide +kernel
theorem dX4_trackHolds_18 : decode cX4_trackHolds 18 = .ok (.invokevirtual 90, 3) := by decide +kernel
theorem dX4_trackHolds_21 : decode cX4_trackHolds 21 = .ok (.aload_n 0, 1) := by decide +kernel
theorem dX4_trackHolds_22 : decode cX4_trackHolds 22 = .ok (.aload_n 1, 1) := by decide +kernel
theorem dX4_trackHolds_23 : decode cX4_trackHolds 23 = .ok (.getfield 87, 3) := by decide +kernel
theorem dX4_trackHolds_26 : decode cX4_trackHolds 26 = .ok (.invokevirtual 134, 3) := by decide +kernel
theorem dX4_trackHolds_29 : decode cX4_trackHolds 29 = .ok (.if_icmp .ne 15, 3) := by decide +kernel
theorem dX4_trackHolds_32 : decode cX4_trackHolds 32 = .ok (.aload_n 0, 1) := by decide +kernel
theorem dX4_trackHolds_33 : decode cX4_trackHolds 33 = .ok (.aload_n 1, 1) := by decide +kernel
theorem dX4_trackHolds_34 : decode cX4_trackHolds 34 = .ok (.invokevirtual 137, 3) := by decide +kernel
theorem dX4_trackHolds_37 : decode cX4_trackHolds 37 = .ok (.ifCond .eq 7, 3) := by decide +kernel
theorem dX4_trackHolds_40 : decode cX4_trackHolds 40 = .ok (.iconst 1, 1) := by decide +kernel
theorem dX4_trackHolds_41 : decode cX4_trackHolds 41 = .ok (.goto 4, 3) := by decide +kernel
theorem dX4_trackHolds_44 : decode cX4_trackHolds 44 = .ok (.iconst 0, 1) := by decide +kernel
theorem dX4_trackHolds_45 : decode cX4_trackHolds 45 = .ok (.ireturn, 1) := by decide +kernel
set_option maxRecDepth 20000 in
theorem ggX4_isInTimeOrder_X0_countPrints : GoodIn wsX4_isInTimeOrder wsX0_countPrints := goodIn_r _ [7, 8, 9, 10, 11, 6, 12, 13, 14, 15, 16, 17, 18, 19, 20, 21, 37, 38, 39, 40, 41, 42, 43, 44, 45, 46, 27, 28, 29, 30, 31, 32, 33, 34, 35, 36] (by decide +kernel) (by decide +kernel)
set_option maxRecDepth 20000 in
theorem gX4_isInTimeOrder_X0_countPrints : GoodIn wsX4_isInTimeOrder (wsV RX4 105 RX0 yX0_countPrints wsX0_countPrints) := goodIn_app (goodIn_of _ (by decide +kernel)) ggX4_isInTimeOrder_X0_countPrints
set_option maxRecDepth 20000 in
theorem ggX4_isInTimeOrder_X0_inPlace : GoodIn wsX4_isInTimeOrder wsX0_inPlace := goodIn_r _ [25, 13, 8, 14, 15, 16, 17, 18, 19, 20, 21, 9, 10, 11, 6, 12, 40, 41, 42, 43, 44, 45, 46, 37, 38, 39, 27, 28, 29, 30, 31, 32, 33, 34, 35, 36] (by decide +kernel) (by decide +kernel)
set_option maxRecDepth 20000 in
theorem gX4_isInTimeOrder_X0_inPlace : GoodIn wsX4_isInTimeOrder (wsV RX4 140 RX0 yX0_inPlace wsX0_inPlace) := goodIn_app (goodIn_of _ (by decide +kernel)) ggX4_isInTimeOrder_X0_inPlace
theorem dX4_isInTimeOrder_0 : decode cX4_isInTimeOrder 0 = .ok (.iconst (-1), 1) := by decide +kernel
theorem dX4_isInTimeOrder_1 : decode cX4_isInTimeOrder 1 = .ok (.istore_n 2, 1) := by decide +kernel
theorem dX4_isInTimeOrder_2 : decode cX4_isInTimeOrder 2 = .ok (.aload_n 0, 1) := by decide +kernel
theorem dX4_isInTimeOrder_3 : decode cX4_isInTimeOrder 3 = .ok (.getfield 9, 3) := by decide +kernel
theorem dX4_isInTimeOrder_6 : decode cX4_isInTimeOrder 6 = .ok (.aload_n 1, 1) := by decide +kernel
theorem dX4_isInTimeOrder_7 : decode cX4_isInTimeOrder 7 = .ok (.invokevirtual 105, 3) := by decide +kernel
theorem dX4_isInTimeOrder_10 : decode cX4_isInTimeOrder 10 = .ok (.istore_n 3, 1) := by decide +kernel
theorem dX4_isInTimeOrder_11 : decode cX4_isInTimeOrder 11 = .ok (.iconst 0, 1) := by decide +kernel
theorem dX4_isInTimeOrder_12 : decode cX4_isInTimeOrder 12 = .ok (.istore 4, 2) := by decide +kernel
theorem dX4_isInTimeOrder_14 : decode cX4_isInTimeOrder 14 = .ok (.iload 4, 2) := by decide +kernel
theorem dX4_isInTimeOrder_16 : decode cX4_isInTimeOrder 16 = .ok (.iload_n 3, 1) := by decide +kernel
theorem dX4_isInTimeOrder_17 : decode cX4_isInTimeOrder 17 = .ok (.if_icmp .ge 43, 3) := by decide +kernel
theorem dX4_isInTimeOrder_20 : decode cX4_isInTimeOrder 20 = .ok (.aload_n 0, 1) := by decide +kernel
theorem dX4_isInTimeOrder_21 : decode cX4_isInTimeOrder 21 = .ok (.getfield 9, 3) := by decide +kernel
theorem dX4_isInTimeOrder_24 : decode cX4_isInTimeOrder 24 = .ok (.aload_n 1, 1) := by decide +kernel
theorem dX4_isInTimeOrder_25 : decode cX4_isInTimeOrder 25 = .ok (.iload 4, 2) := by decide +kernel
theorem dX4_isInTimeOrder_27 : decode cX4_isInTimeOrder 27 = .ok (.invokevirtual 140, 3) := by decide +kernel
theorem dX4_isInTimeOrder_30 : decode cX4_isInTimeOrder 30 = .ok (.astore 5, 2) := by decide +kernel
theorem dX4_isInTimeOrder_32 : decode cX4_isInTimeOrder 32 = .ok (.aload 5, 2) := by decide +kernel
theorem dX4_isInTimeOrder_34 : decode cX4_isInTimeOrder 34 = .ok (.ifnull 12, 3) := by decide +kernel
theorem dX4_isInTimeOrder_37 : decode cX4_isInTimeOrder 37 = .ok (.aload 5, 2) := by decide +kernel
theorem dX4_isInTimeOrder_39 : decode cX4_isInTimeOrder 39 = .ok (.getfield 144, 3) := by decide +kernel
theorem dX4_isInTimeOrder_42 : decode cX4_isInTimeOrder 42 = .ok (.iload_n 2, 1) := by decide +kernel
theorem dX4_isInTimeOrder_43 : decode cX4_isInTimeOrder 43 = .ok (.if_icmp .gt 5, 3) := by decide +kernel
theorem dX4_isInTimeOrder_46 : decode cX4_isInTimeOrder 46 = .ok (.iconst 0, 1) := by decide +kernel
theorem dX4_isInTimeOrder_47 : decode cX4_isInTimeOrder 47 = .ok (.ireturn, 1) := by decide +kernel
theorem dX4_isInTimeOrder_48 : decode cX4_isInTimeOrder 48 = .ok (.aload 5, 2) := by decide +kernel
theorem dX4_isInTimeOrder_50 : decode cX4_isInTimeOrder 50 = .ok (.getfield 144, 3) := by decide +kernel
theorem dX4_isInTimeOrder_53 : decode cX4_isInTimeOrder 53 = .ok (.istore_n 2, 1) := by decide +kernel
theorem dX4_isInTimeOrder_54 : decode cX4_isInTimeOrder 54 = .ok (.iinc 4 1, 3) := by decide +kernel
theorem dX4_isInTimeOrder_57 : decode cX4_isInTimeOrder 57 = .ok (.goto (-43), 3) := by decide +kernel
theorem dX4_isInTimeOrder_60 : decode cX4_isInTimeOrder 60 = .ok (.iconst 1, 1) := by decide +kernel
theorem dX4_isInTimeOrder_61 : decode cX4_isInTimeOrder 61 = .ok (.ireturn, 1) := by decide +kernel
theorem dX5_init_0 : decode cX5_init 0 = .ok (.aload_n 0, 1) := by decide +kernel
theorem dX5_init_1 : decode cX5_init 1 = .ok (.invokespecial 1, 3) := by decide +kernel
theorem dX5_init_4 : decode cX5_init 4 = .ok (.aload_n 0, 1) := by decide +kernel
theorem dX5_init_5 : decode cX5_init 5 = .ok (.iload_n 1, 1) := by decide +kernel
theorem dX5_init_6 : decode cX5_init 6 = .ok (.putfield 7, 3) := by decide +kernel
theorem dX5_init_9 : decode cX5_init 9 = .ok (.aload_n 0, 1) := by decide +kernel
theorem dX5_init_10 : decode cX5_init 10 = .ok (.iload_n 2, 1) := by decide +kernel
theorem dX5_init_11 : decode cX5_init 11 = .ok (.putfield 13, 3) := by decide +kernel
theorem dX5_init_14 : decode cX5_init 14 = .ok (.aload_n 0, 1) := by decide +kernel
theorem dX5_init_15 : decode cX5_init 15 = .ok (.aload_n 3, 1) := by decide +kernel
theorem dX5_init_16 : decode cX5_init 16 = .ok (.putfield 16, 3) := by decide +kernel
theorem dX5_init_19 : decode cX5_init 19 = .ok (.return_, 1) := by decide +kernel
set_option maxRecDepth 20000 in
theorem ggX6_init_X7_init : GoodIn wsX6_init wsX7_init := goodIn_r _ [15, 16, 2, 3, 17, 21, 22] (by decide +kernel) (by decide +kernel)
set_option maxRecDepth 20000 in
theorem gX6_init_X7_init : GoodIn wsX6_init (wsX7_init) := ggX6_init_X7_init
set_option maxRecDepth 20000 in
theorem ggX6_init_X1_init : GoodIn wsX6_init wsX1_init := goodIn_r _ [19, 20, 2, 3] (by decide +kernel) (by decide +kernel)
set_option maxRecDepth 20000 in
theorem gX6_init_X1_init_n26 : GoodIn wsX6_init (wsX1_init) := ggX6_init_X1_init
theorem dX6_init_0 : decode cX6_init 0 = .ok (.aload_n 0, 1) := by decide +kernel
theorem dX6_init_1 : decode cX6_init 1 = .ok (.invokespecial 3, 3) := by decide +kernel
theorem dX6_init_4 : decode cX6_init 4 = .ok (.aload_n 0, 1) := by decide +kernel
theorem dX6_init_5 : decode cX6_init 5 = .ok (.new 9, 3) := by decide +kernel
theorem dX6_init_8 : decode cX6_init 8 = .ok (.dup, 1) := by decide +kernel
theorem dX6_init_9 : decode cX6_init 9 = .ok (.bipush 60, 2) := by decide +kernel
theorem dX6_init_11 : decode cX6_init 11 = .ok (.newarray .char, 2) := by decide +kernel
theorem dX6_init_13 : decode cX6_init 13 = .ok (.invokespecial 11, 3) := by decide +kernel
theorem dX6_init_16 : decode cX6_init 16 = .ok (.putfield 14, 3) := by decide +kernel
theorem dX6_init_19 : decode cX6_init 19 = .ok (.aload_n 0, 1) := by decide +kernel
theorem dX6_init_20 : decode cX6_init 20 = .ok (.bipush 20, 2) := by decide +kernel
theorem dX6_init_22 : decode cX6_init 22 = .ok (.anewarray 20, 3) := by decide +kernel
theorem dX6_init_25 : decode cX6_init 25 = .ok (.putfield 22, 3) := by decide +kernel
theorem dX6_init_28 : decode cX6_init 28 = .ok (.iconst 0, 1) := by decide +kernel
theorem dX6_init_29 : decode cX6_init 29 = .ok (.istore_n 1, 1) := by decide +kernel
theorem dX6_init_30 : decode cX6_init 30 = .ok (.iload_n 1, 1) := by decide +kernel
theorem dX6_init_31 : decode cX6_init 31 = .ok (.aload_n 0, 1) := by decide +kernel
theorem dX6_init_32 : decode cX6_init 32 = .ok (.getfield 22, 3) := by decide +kernel
theorem dX6_init_35 : decode cX6_init 35 = .ok (.arraylength, 1) := by decide +kernel
theorem dX6_init_36 : decode cX6_init 36 = .ok (.if_icmp .ge 22, 3) := by decide +kernel
theorem dX6_init_39 : decode cX6_init 39 = .ok (.aload_n 0, 1) := by decide +kernel
theorem dX6_init_40 : decode cX6_init 40 = .ok (.getfield 22, 3) := by decide +kernel
theorem dX6_init_43 : decode cX6_init 43 = .ok (.iload_n 1, 1) := by decide +kernel
theorem dX6_init_44 : decode cX6_init 44 = .ok (.new 20, 3) := by decide +kernel
theorem dX6_init_47 : decode cX6_init 47 = .ok (.dup, 1) := by decide +kernel
theorem dX6_init_48 : decode cX6_init 48 = .ok (.invokespecial 26, 3) := by decide +kernel
theorem dX6_init_51 : decode cX6_init 51 = .ok (.aastore, 1) := by decide +kernel
theorem dX6_init_52 : decode cX6_init 52 = .ok (.iinc 1 1, 3) := by decide +kernel
theorem dX6_init_55 : decode cX6_init 55 = .ok (.goto (-25), 3) := by decide +kernel
theorem dX6_init_58 : decode cX6_init 58 = .ok (.return_, 1) := by decide +kernel
theorem dX7_init_0 : decode cX7_init 0 = .ok (.aload_n 0, 1) := by decide +kernel
theorem dX7_init_1 : decode cX7_init 1 = .ok (.invokespecial 1, 3) := by decide +kernel
theorem dX7_init_4 : decode cX7_init 4 = .ok (.aload_n 0, 1) := by decide +kernel
theorem dX7_init_5 : decode cX7_init 5 = .ok (.aload_n 1, 1) := by decide +kernel
theorem dX7_init_6 : decode cX7_init 6 = .ok (.putfield 7, 3) := by decide +kernel
theorem dX7_init_9 : decode cX7_init 9 = .ok (.return_, 1) := by decide +kernel
theorem dX7_append_0 : decode cX7_append 0 = .ok (.aload_n 0, 1) := by decide +kernel
theorem dX7_append_1 : decode cX7_append 1 = .ok (.getfield 13, 3) := by decide +kernel
theorem dX7_append_4 : decode cX7_append 4 = .ok (.aload_n 0, 1) := by decide +kernel
theorem dX7_append_5 : decode cX7_append 5 = .ok (.getfield 7, 3) := by decide +kernel
theorem dX7_append_8 : decode cX7_append 8 = .ok (.arraylength, 1) := by decide +kernel
theorem dX7_append_9 : decode cX7_append 9 = .ok (.if_icmp .ge 23, 3) := by decide +kernel
theorem dX7_append_12 : decode cX7_append 12 = .ok (.aload_n 0, 1) := by decide +kernel
theorem dX7_append_13 : decode cX7_append 13 = .ok (.getfield 7, 3) := by decide +kernel
theorem dX7_append_16 : decode cX7_append 16 = .ok (.aload_n 0, 1) := by decide +kernel
theorem dX7_append_17 : decode cX7_append 17 = .ok (.getfield 13, 3) := by decide +kernel
theorem dX7_append_20 : decode cX7_append 20 = .ok (.iload_n 1, 1) := by decide +kernel
theorem dX7_append_21 : decode cX7_append 21 = .ok (.castore, 1) := by decide +kernel
theorem dX7_append_22 : decode cX7_append 22 = .ok (.aload_n 0, 1) := by decide +kernel
theorem dX7_append_23 : decode cX7_append 23 = .ok (.dup, 1) := by decide +kernel
theorem dX7_append_24 : decode cX7_append 24 = .ok (.getfield 13, 3) := by decide +kernel
theorem dX7_append_27 : decode cX7_append 27 = .ok (.iconst 1, 1) := by decide +kernel
theorem dX7_append_28 : decode cX7_append 28 = .ok (.iadd, 1) := by decide +kernel
theorem dX7_append_29 : decode cX7_append 29 = .ok (.putfield 13, 3) := by decide +kernel
theorem dX7_append_32 : decode cX7_append 32 = .ok (.return_, 1) := by decide +kernel
theorem dX7_reaches_0 : decode cX7_reaches 0 = .ok (.iload_n 1, 1) := by decide +kernel
theorem dX7_reaches_1 : decode cX7_reaches 1 = .ok (.ifCond .lt 24, 3) := by decide +kernel
theorem dX7_reaches_4 : decode cX7_reaches 4 = .ok (.iload_n 1, 1) := by decide +kernel
theorem dX7_reaches_5 : decode cX7_reaches 5 = .ok (.aload_n 0, 1) := by decide +kernel
theorem dX7_reaches_6 : decode cX7_reaches 6 = .ok (.getfield 13, 3) := by decide +kernel
theorem dX7_reaches_9 : decode cX7_reaches 9 = .ok (.if_icmp .ge 16, 3) := by decide +kernel
theorem dX7_reaches_12 : decode cX7_reaches 12 = .ok (.iload_n 1, 1) := by decide +kernel
theorem dX7_reaches_13 : decode cX7_reaches 13 = .ok (.aload_n 0, 1) := by decide +kernel
theorem dX7_reaches_14 : decode cX7_reaches 14 = .ok (.getfield 7, 3) := by decide +kernel
theorem dX7_reaches_17 : decode cX7_reaches 17 = .ok (.arraylength, 1) := by decide +kernel
theorem dX7_reaches_18 : decode cX7_reaches 18 = .ok (.if_icmp .ge 7, 3) := by decide +kernel
theorem dX7_reaches_21 : decode cX7_reaches 21 = .ok (.iconst 1, 1) := by decide +kernel
theorem dX7_reaches_22 : decode cX7_reaches 22 = .ok (.goto 4, 3) := by decide +kernel
theorem dX7_reaches_25 : decode cX7_reaches 25 = .ok (.iconst 0, 1) := by decide +kernel
theorem dX7_reaches_26 : decode cX7_reaches 26 = .ok (.ireturn, 1) := by decide +kernel
set_option maxRecDepth 20000 in
theorem ggX7_signAt_X7_reaches : GoodIn wsX7_signAt wsX7_reaches := goodIn_r _ [6, 7, 1, 8, 9] (by decide +kernel) (by decide +kernel)
set_option maxRecDepth 20000 in
theorem gX7_signAt_X7_reaches : GoodIn wsX7_signAt (wsV RX7 17 RX7 yX7_reaches wsX7_reaches) := goodIn_app (goodIn_of _ (by decide +kernel)) ggX7_signAt_X7_reaches
theorem dX7_signAt_0 : decode cX7_signAt 0 = .ok (.aload_n 0, 1) := by decide +kernel
theorem dX7_signAt_1 : decode cX7_signAt 1 = .ok (.iload_n 1, 1) := by decide +kernel
theorem dX7_signAt_2 : decode cX7_signAt 2 = .ok (.invokevirtual 17, 3) := by decide +kernel
theorem dX7_signAt_5 : decode cX7_signAt 5 = .ok (.ifCond .eq 12, 3) := by decide +kernel
theorem dX7_signAt_8 : decode cX7_signAt 8 = .ok (.aload_n 0, 1) := by decide +kernel
theorem dX7_signAt_9 : decode cX7_signAt 9 = .ok (.getfield 7, 3) := by decide +kernel
theorem dX7_signAt_12 : decode cX7_signAt 12 = .ok (.iload_n 1, 1) := by decide +kernel
theorem dX7_signAt_13 : decode cX7_signAt 13 = .ok (.caload, 1) := by decide +kernel
theorem dX7_signAt_14 : decode cX7_signAt 14 = .ok (.goto 4, 3) := by decide +kernel
theorem dX7_signAt_17 : decode cX7_signAt 17 = .ok (.iconst 0, 1) := by decide +kernel
theorem dX7_signAt_18 : decode cX7_signAt 18 = .ok (.ireturn, 1) := by decide +kernel
theorem dX7_clear_0 : decode cX7_clear 0 = .ok (.aload_n 0, 1) := by decide +kernel
theorem dX7_clear_1 : decode cX7_clear 1 = .ok (.iconst 0, 1) := by decide +kernel
theorem dX7_clear_2 : decode cX7_clear 2 = .ok (.putfield 13, 3) := by decide +kernel
theorem dX7_clear_5 : decode cX7_clear 5 = .ok (.return_, 1) := by decide +kernel
theorem dX8_init_0 : decode cX8_init 0 = .ok (.aload_n 0, 1) := by decide +kernel
theorem dX8_init_1 : decode cX8_init 1 = .ok (.invokespecial 1, 3) := by decide +kernel
theorem dX8_init_4 : decode cX8_init 4 = .ok (.return_, 1) := by decide +kernel
theorem dX8_copyFrom_0 : decode cX8_copyFrom 0 = .ok (.aload_n 0, 1) := by decide +kernel
theorem dX8_copyFrom_1 : decode cX8_copyFrom 1 = .ok (.aload_n 1, 1) := by decide +kernel
theorem dX8_copyFrom_2 : decode cX8_copyFrom 2 = .ok (.getfield 7, 3) := by decide +kernel
theorem dX8_copyFrom_5 : decode cX8_copyFrom 5 = .ok (.putfield 7, 3) := by decide +kernel
theorem dX8_copyFrom_8 : decode cX8_copyFrom 8 = .ok (.aload_n 0, 1) := by decide +kernel
theorem dX8_copyFrom_9 : decode cX8_copyFrom 9 = .ok (.aload_n 1, 1) := by decide +kernel
theorem dX8_copyFrom_10 : decode cX8_copyFrom 10 = .ok (.getfield 13, 3) := by decide +kernel
theorem dX8_copyFrom_13 : decode cX8_copyFrom 13 = .ok (.putfield 13, 3) := by decide +kernel
theorem dX8_copyFrom_16 : decode cX8_copyFrom 16 = .ok (.aload_n 0, 1) := by decide +kernel
theorem dX8_copyFrom_17 : decode cX8_copyFrom 17 = .ok (.aload_n 1, 1) := by decide +kernel
theorem dX8_copyFrom_18 : decode cX8_copyFrom 18 = .ok (.getfield 17, 3) := by decide +kernel
theorem dX8_copyFrom_21 : decode cX8_copyFrom 21 = .ok (.putfield 17, 3) := by decide +kernel
theorem dX8_copyFrom_24 : decode cX8_copyFrom 24 = .ok (.return_, 1) := by decide +kernel
set_option maxRecDepth 20000 in
theorem ggX9_init_X0_init : GoodIn wsX9_init wsX0_init := goodIn_r _ [32, 33, 2, 3, 34, 35, 36, 37, 38, 39, 40, 41, 42, 43, 44, 45, 46, 47, 79, 80, 81, 82, 83, 84, 85, 106, 107, 108, 109, 110, 111, 112, 113, 114, 115, 116, 117, 118] (by decide +kernel) (by decide +kernel)
set_option maxRecDepth 20000 in
theorem gX9_init_X0_init : GoodIn wsX9_init (wsX0_init) := ggX9_init_X0_init
set_option maxRecDepth 20000 in
theorem ggX9_init_X4_init : GoodIn wsX9_init wsX4_init := goodIn_r _ [50, 51, 2, 3, 52, 96] (by decide +kernel) (by decide +kernel)
set_option maxRecDepth 20000 in
theorem gX9_init_X4_init : GoodIn wsX9_init (wsX4_init) := ggX9_init_X4_init
set_option maxRecDepth 20000 in
theorem ggX9_init_X2_init : GoodIn wsX9_init wsX2_init := goodIn_r _ [55, 56, 2, 3, 57, 58, 5, 6, 59, 31, 32, 33, 34, 35, 36, 37, 38, 39, 40, 41, 42, 43, 44, 45, 46, 47, 97, 98, 79, 80, 81, 82, 83, 84, 85, 106, 107, 108, 109, 110, 111, 112, 113, 114, 115, 116, 117, 118] (by decide +kernel) (by decide +kernel)
set_option maxRecDepth 20000 in
theorem gX9_init_X2_init : GoodIn wsX9_init (wsX2_init) := ggX9_init_X2_init
set_option maxRecDepth 20000 in
theorem ggX9_init_X6_init : GoodIn wsX9_init wsX6_init := goodIn_r _ [62, 63, 2, 3, 64, 24, 25, 26, 65, 66, 67, 68, 69, 70, 71, 72, 73, 74, 75, 76, 77, 104, 105, 99, 100, 101, 102, 103, 119, 120, 121, 122, 123, 124, 125] (by decide +kernel) (by decide +kernel)
set_option maxRecDepth 20000 in
theorem gX9_init_X6_init : GoodIn wsX9_init (wsX6_init) := ggX9_init_X6_init
set_option maxRecDepth 20000 in
theorem ggX9_init_X7_init : GoodIn wsX9_init wsX7_init := goodIn_r _ [72, 73, 2, 3, 74, 104, 105] (by decide +kernel) (by decide +kernel)
set_option maxRecDepth 20000 in
theorem gX9_init_X7_init : GoodIn wsX9_init (wsX7_init) := ggX9_init_X7_init
theorem dX9_init_0 : decode cX9_init 0 = .ok (.aload_n 0, 1) := by decide +kernel
theorem dX9_init_1 : decode cX9_init 1 = .ok (.invokespecial 3, 3) := by decide +kernel
theorem dX9_init_4 : decode cX9_init 4 = .ok (.aload_n 0, 1) := by decide +kernel
theorem dX9_init_5 : decode cX9_init 5 = .ok (.new 9, 3) := by decide +kernel
theorem dX9_init_8 : decode cX9_init 8 = .ok (.dup, 1) := by decide +kernel
theorem dX9_init_9 : decode cX9_init 9 = .ok (.invokespecial 11, 3) := by decide +kernel
theorem dX9_init_12 : decode cX9_init 12 = .ok (.putfield 12, 3) := by decide +kernel
theorem dX9_init_15 : decode cX9_init 15 = .ok (.aload_n 0, 1) := by decide +kernel
theorem dX9_init_16 : decode cX9_init 16 = .ok (.new 16, 3) := by decide +kernel
theorem dX9_init_19 : decode cX9_init 19 = .ok (.dup, 1) := by decide +kernel
theorem dX9_init_20 : decode cX9_init 20 = .ok (.aload_n 0, 1) := by decide +kernel
theorem dX9_init_21 : decode cX9_init 21 = .ok (.getfield 12, 3) := by decide +kernel
theorem dX9_init_24 : decode cX9_init 24 = .ok (.invokespecial 18, 3) := by decide +kernel
theorem dX9_init_27 : decode cX9_init 27 = .ok (.putfield 21, 3) := by decide +kernel
theorem dX9_init_30 : decode cX9_init 30 = .ok (.aload_n 0, 1) := by decide +kernel
theorem dX9_init_31 : decode cX9_init 31 = .ok (.new 25, 3) := by decide +kernel
theorem dX9_init_34 : decode cX9_init 34 = .ok (.dup, 1) := by decide +kernel
theorem dX9_init_35 : decode cX9_init 35 = .ok (.invokespecial 27, 3) := by decide +kernel
theorem dX9_init_38 : decode cX9_init 38 = .ok (.putfield 28, 3) := by decide +kernel
theorem dX9_init_41 : decode cX9_init 41 = .ok (.aload_n 0, 1) := by decide +kernel
theorem dX9_init_42 : decode cX9_init 42 = .ok (.new 9, 3) := by decide +kernel
theorem dX9_init_45 : decode cX9_init 45 = .ok (.dup, 1) := by decide +kernel
theorem dX9_init_46 : decode cX9_init 46 = .ok (.invokespecial 11, 3) := by decide +kernel
theorem dX9_init_49 : decode cX9_init 49 = .ok (.putfield 32, 3) := by decide +kernel
theorem dX9_init_52 : decode cX9_init 52 = .ok (.aload_n 0, 1) := by decide +kernel
theorem dX9_init_53 : decode cX9_init 53 = .ok (.new 9, 3) := by decide +kernel
theorem dX9_init_56 : decode cX9_init 56 = .ok (.dup, 1) := by decide +kernel
theorem dX9_init_57 : decode cX9_init 57 = .ok (.invokespecial 11, 3) := by decide +kernel
theorem dX9_init_60 : decode cX9_init 60 = .ok (.putfield 35, 3) := by decide +kernel
theorem dX9_init_63 : decode cX9_init 63 = .ok (.aload_n 0, 1) := by decide +kernel
theorem dX9_init_64 : decode cX9_init 64 = .ok (.iconst 0, 1) := by decide +kernel
theorem dX9_init_65 : decode cX9_init 65 = .ok (.putfield 38, 3) := by decide +kernel
theorem dX9_init_68 : decode cX9_init 68 = .ok (.aload_n 0, 1) := by decide +kernel
theorem dX9_init_69 : decode cX9_init 69 = .ok (.new 42, 3) := by decide +kernel
theorem dX9_init_72 : decode cX9_init 72 = .ok (.dup, 1) := by decide +kernel
theorem dX9_init_73 : decode cX9_init 73 = .ok (.invokespecial 44, 3) := by decide +kernel
theorem dX9_init_76 : decode cX9_init 76 = .ok (.putfield 45, 3) := by decide +kernel
theorem dX9_init_79 : decode cX9_init 79 = .ok (.aload_n 0, 1) := by decide +kernel
theorem dX9_init_80 : decode cX9_init 80 = .ok (.new 49, 3) := by decide +kernel
theorem dX9_init_83 : decode cX9_init 83 = .ok (.dup, 1) := by decide +kernel
theorem dX9_init_84 : decode cX9_init 84 = .ok (.bipush 90, 2) := by decide +kernel
theorem dX9_init_86 : decode cX9_init 86 = .ok (.newarray .char, 2) := by decide +kernel
theorem dX9_init_88 : decode cX9_init 88 = .ok (.invokespecial 51, 3) := by decide +kernel
theorem dX9_init_91 : decode cX9_init 91 = .ok (.putfield 54, 3) := by decide +kernel
theorem dX9_init_94 : decode cX9_init 94 = .ok (.aload_n 0, 1) := by decide +kernel
theorem dX9_init_95 : decode cX9_init 95 = .ok (.aconst_null, 1) := by decide +kernel
theorem dX9_init_96 : decode cX9_init 96 = .ok (.putfield 58, 3) := by decide +kernel
theorem dX9_init_99 : decode cX9_init 99 = .ok (.aload_n 0, 1) := by decide +kernel
theorem dX9_init_100 : decode cX9_init 100 = .ok (.iconst (-1), 1) := by decide +kernel
theorem dX9_init_101 : decode cX9_init 101 = .ok (.putfield 62, 3) := by decide +kernel
theorem dX9_init_104 : decode cX9_init 104 = .ok (.return_, 1) := by decide +kernel
set_option maxRecDepth 20000 in
theorem ggX9_addTrack_X9_isStride : GoodIn wsX9_addTrack wsX9_isStride := goodIn_r _ [8] (by decide +kernel) (by decide +kernel)
set_option maxRecDepth 20000 in
theorem gX9_addTrack_X9_isStride : GoodIn wsX9_addTrack (va_wsS RX9 66 yX9_isStride wsX9_isStride) := goodIn_app (goodIn_of _ (by decide +kernel)) ggX9_addTrack_X9_isStride
set_option maxRecDepth 20000 in
theorem ggX9_addTrack_X0_objectionToTrack : GoodIn wsX9_addTrack wsX0_objectionToTrack := goodIn_r _ [13, 14, 15, 16, 17, 18, 19, 12, 20, 21, 22, 23, 24, 25, 26, 27, 28, 29, 30, 31, 99, 100, 101, 102, 103, 104, 105, 106, 107, 108, 109, 110, 111] (by decide +kernel) (by decide +kernel)
set_option maxRecDepth 20000 in
theorem gX9_addTrack_X0_objectionToTrack : GoodIn wsX9_addTrack (wsV RX9 77 RX0 yX0_objectionToTrack wsX0_objectionToTrack) := goodIn_app (goodIn_of _ (by decide +kernel)) ggX9_addTrack_X0_objectionToTrack
set_option maxRecDepth 20000 in
theorem ggX9_addTrack_X9_rejectFor : GoodIn wsX9_addTrack wsX9_rejectFor := goodIn_ca (goodIn_r _ [35, 36, 37, 38, 89, 90, 91, 92, 93, 94, 95, 96, 97, 98] (by decide +kernel) (by decide +kernel)) (goodIn_sub (fun _ h => List.mem_cons_of_mem _ (List.mem_append_right _ h)) (by decide +kernel))
set_option maxRecDepth 20000 in
theorem gX9_addTrack_X9_rejectFor : GoodIn wsX9_addTrack (wsV RX9 81 RX9 yX9_rejectFor wsX9_rejectFor) := goodIn_app (goodIn_of _ (by decide +kernel)) ggX9_addTrack_X9_rejectFor
set_option maxRecDepth 20000 in
theorem ggX9_addTrack_X2_push : GoodIn wsX9_addTrack wsX2_push := goodIn_r _ [43, 44, 45, 46, 47, 48, 49, 50, 51, 52, 12, 53, 21, 54, 55, 56, 57, 58, 59, 60, 61, 62, 63, 64, 65, 66, 67, 68, 69, 70, 71, 72, 73, 74, 75, 76, 77, 78, 79, 80, 81, 82, 112, 113, 102, 103, 104, 105, 106, 107, 108, 109, 110, 111, 114, 115, 116, 117, 118, 119, 120, 121, 122, 123] (by decide +kernel) (by decide +kernel)
set_option maxRecDepth 20000 in
theorem gX9_addTrack_X2_push : GoodIn wsX9_addTrack (wsV RX9 85 RX2 yX2_push wsX2_push) := goodIn_app (goodIn_of _ (by decide +kernel)) ggX9_addTrack_X2_push
set_option maxRecDepth 20000 in
theorem ggX9_addTrack_X0_putTrack : GoodIn wsX9_addTrack wsX0_putTrack := goodIn_r _ [86, 21, 22, 56, 87, 88, 102, 103, 104, 105, 106, 107, 108, 109, 110, 111] (by decide +kernel) (by decide +kernel)
set_option maxRecDepth 20000 in
theorem gX9_addTrack_X0_putTrack : GoodIn wsX9_addTrack (wsV RX9 88 RX0 yX0_putTrack wsX0_putTrack) := goodIn_app (goodIn_of _ (by decide +kernel)) ggX9_addTrack_X0_putTrack
theorem dX9_addTrack_0 : decode cX9_addTrack 0 = .ok (.iload_n 1, 1) := by decide +kernel
theorem dX9_addTrack_1 : decode cX9_addTrack 1 = .ok (.invokestatic 66, 3) := by decide +kernel
theorem dX9_addTrack_4 : decode cX9_addTrack 4 = .ok (.ifCond .ne 13, 3) := by decide +kernel
theorem dX9_addTrack_7 : decode cX9_addTrack 7 = .ok (.new 70, 3) := by decide +kernel
theorem dX9_addTrack_10 : decode cX9_addTrack 10 = .ok (.dup, 1) := by decide +kernel
theorem dX9_addTrack_11 : decode cX9_addTrack 11 = .ok (.ldc 72, 2) := by decide +kernel
theorem dX9_addTrack_13 : decode cX9_addTrack 13 = .ok (.invokespecial 74, 3) := by decide +kernel
theorem dX9_addTrack_16 : decode cX9_addTrack 16 = .ok (.athrow, 1) := by decide +kernel
theorem dX9_addTrack_17 : decode cX9_addTrack 17 = .ok (.aload_n 0, 1) := by decide +kernel
theorem dX9_addTrack_18 : decode cX9_addTrack 18 = .ok (.aload_n 0, 1) := by decide +kernel
theorem dX9_addTrack_19 : decode cX9_addTrack 19 = .ok (.getfield 12, 3) := by decide +kernel
theorem dX9_addTrack_22 : decode cX9_addTrack 22 = .ok (.invokevirtual 77, 3) := by decide +kernel
theorem dX9_addTrack_25 : decode cX9_addTrack 25 = .ok (.invokevirtual 81, 3) := by decide +kernel
theorem dX9_addTrack_28 : decode cX9_addTrack 28 = .ok (.aload_n 0, 1) := by decide +kernel
theorem dX9_addTrack_29 : decode cX9_addTrack 29 = .ok (.getfield 28, 3) := by decide +kernel
theorem dX9_addTrack_32 : decode cX9_addTrack 32 = .ok (.aload_n 0, 1) := by decide +kernel
theorem dX9_addTrack_33 : decode cX9_addTrack 33 = .ok (.getfield 12, 3) := by decide +kernel
theorem dX9_addTrack_36 : decode cX9_addTrack 36 = .ok (.invokevirtual 85, 3) := by decide +kernel
theorem dX9_addTrack_39 : decode cX9_addTrack 39 = .ok (.aload_n 0, 1) := by decide +kernel
theorem dX9_addTrack_40 : decode cX9_addTrack 40 = .ok (.getfield 12, 3) := by decide +kernel
theorem dX9_addTrack_43 : decode cX9_addTrack 43 = .ok (.iload_n 1, 1) := by decide +kernel
theorem dX9_addTrack_44 : decode cX9_addTrack 44 = .ok (.invokevirtual 88, 3) := by decide +kernel
theorem dX9_addTrack_47 : decode cX9_addTrack 47 = .ok (.ireturn, 1) := by decide +kernel
set_option maxRecDepth 20000 in
theorem ggX9_removeTrack_X9_requireTrack : GoodIn wsX9_removeTrack wsX9_requireTrack := goodIn_ca (goodIn_r _ [7, 8, 9, 2, 10, 11, 12, 13, 14, 15, 16, 17, 71, 72, 73, 74, 75, 76, 77, 78, 79, 80, 81, 82, 83, 84, 85, 86, 87, 88, 89, 90] (by decide +kernel) (by decide +kernel)) (goodIn_sub (fun _ h => List.mem_cons_of_mem _ (List.mem_append_right _ h)) (by decide +kernel))
set_option maxRecDepth 20000 in
theorem gX9_removeTrack_X9_requireTrack : GoodIn wsX9_removeTrack (wsV RX9 92 RX9 yX9_requireTrack wsX9_requireTrack) := goodIn_app (goodIn_of _ (by decide +kernel)) ggX9_removeTrack_X9_requireTrack
set_option maxRecDepth 20000 in
theorem ggX9_removeTrack_X2_push : GoodIn wsX9_removeTrack wsX2_push := goodIn_r _ [22, 23, 24, 25, 26, 27, 28, 29, 30, 31, 13, 32, 15, 33, 34, 35, 36, 37, 38, 39, 40, 41, 42, 43, 44, 45, 46, 47, 48, 49, 50, 51, 52, 53, 54, 55, 56, 57, 58, 59, 60, 61, 91, 92, 81, 82, 83, 84, 85, 86, 87, 88, 89, 90, 93, 94, 95, 96, 97, 98, 99, 100, 101, 102] (by decide +kernel) (by decide +kernel)
set_option maxRecDepth 20000 in
theorem gX9_removeTrack_X2_push : GoodIn wsX9_removeTrack (wsV RX9 85 RX2 yX2_push wsX2_push) := goodIn_app (goodIn_of _ (by decide +kernel)) ggX9_removeTrack_X2_push
set_option maxRecDepth 20000 in
theorem ggX9_removeTrack_X0_dropTrack : GoodIn wsX9_removeTrack wsX0_dropTrack := goodIn_r _ [65, 33, 17, 66, 16, 67, 68, 69, 50, 70, 52, 54, 81, 82, 83, 84, 85, 86, 87, 88, 89, 90, 93, 94, 95, 96, 97, 98, 99, 100, 101, 102] (by decide +kernel) (by decide +kernel)
set_option maxRecDepth 20000 in
theorem gX9_removeTrack_X0_dropTrack : GoodIn wsX9_removeTrack (wsV RX9 96 RX0 yX0_dropTrack wsX0_dropTrack) := goodIn_app (goodIn_of _ (by decide +kernel)) ggX9_removeTrack_X0_dropTrack
theorem dX9_removeTrack_0 : decode cX9_removeTrack 0 = .ok (.aload_n 0, 1) := by decide +kernel
theorem dX9_removeTrack_1 : decode cX9_removeTrack 1 = .ok (.iload_n 1, 1) := by decide +kernel
theorem dX9_removeTrack_2 : decode cX9_removeTrack 2 = .ok (.invokevirtual 92, 3) := by decide +kernel
theorem dX9_removeTrack_5 : decode cX9_removeTrack 5 = .ok (.astore_n 2, 1) := by decide +kernel
theorem dX9_removeTrack_6 : decode cX9_removeTrack 6 = .ok (.aload_n 0, 1) := by decide +kernel
theorem dX9_removeTrack_7 : decode cX9_removeTrack 7 = .ok (.getfield 28, 3) := by decide +kernel
theorem dX9_removeTrack_10 : decode cX9_removeTrack 10 = .ok (.aload_n 0, 1) := by decide +kernel
theorem dX9_removeTrack_11 : decode cX9_removeTrack 11 = .ok (.getfield 12, 3) := by decide +kernel
theorem dX9_removeTrack_14 : decode cX9_removeTrack 14 = .ok (.invokevirtual 85, 3) := by decide +kernel
theorem dX9_removeTrack_17 : decode cX9_removeTrack 17 = .ok (.aload_n 0, 1) := by decide +kernel
theorem dX9_removeTrack_18 : decode cX9_removeTrack 18 = .ok (.getfield 12, 3) := by decide +kernel
theorem dX9_removeTrack_21 : decode cX9_removeTrack 21 = .ok (.aload_n 2, 1) := by decide +kernel
theorem dX9_removeTrack_22 : decode cX9_removeTrack 22 = .ok (.invokevirtual 96, 3) := by decide +kernel
theorem dX9_removeTrack_25 : decode cX9_removeTrack 25 = .ok (.ireturn, 1) := by decide +kernel
set_option maxRecDepth 20000 in
theorem ggX9_addPrint_X9_requireTrack : GoodIn wsX9_addPrint wsX9_requireTrack := goodIn_ca (goodIn_r _ [9, 10, 11, 3, 12, 13, 14, 15, 16, 17, 18, 19, 148, 149, 150, 151, 152, 153, 154, 155, 156, 157, 158, 159, 160, 161, 162, 163, 164, 165, 166, 167] (by decide +kernel) (by decide +kernel)) (goodIn_sub (fun _ h => List.mem_cons_of_mem _ (List.mem_append_left _ (List.mem_append_right _ h))) (by decide +kernel))
set_option maxRecDepth 20000 in
theorem gX9_addPrint_X9_requireTrack : GoodIn wsX9_addPrint (wsV RX9 92 RX9 yX9_requireTrack wsX9_requireTrack) := goodIn_app (goodIn_of _ (by decide +kernel)) ggX9_addPrint_X9_requireTrack
set_option maxRecDepth 20000 in
theorem ggX9_addPrint_X9_requireCell : GoodIn wsX9_addPrint wsX9_requireCell := goodIn_ca (goodIn_r _ [22, 10, 11, 23, 24, 8, 25, 26, 27, 28] (by decide +kernel) (by decide +kernel)) (goodIn_sub (fun _ h => List.mem_cons_of_mem _ (List.mem_append_left _ (List.mem_append_right _ h))) (by decide +kernel))
set_option maxRecDepth 20000 in
theorem gX9_addPrint_X9_requireCell : GoodIn wsX9_addPrint (va_wsS RX9 100 yX9_requireCell wsX9_requireCell) := goodIn_app (goodIn_of _ (by decide +kernel)) ggX9_addPrint_X9_requireCell
set_option maxRecDepth 20000 in
theorem ggX9_addPrint_X9_isTime : GoodIn wsX9_addPrint wsX9_isTime := goodIn_r _ [31] (by decide +kernel) (by decide +kernel)
set_option maxRecDepth 20000 in
theorem gX9_addPrint_X9_isTime : GoodIn wsX9_addPrint (va_wsS RX9 104 yX9_isTime wsX9_isTime) := goodIn_app (goodIn_of _ (by decide +kernel)) ggX9_addPrint_X9_isTime
set_option maxRecDepth 20000 in
theorem ggX9_addPrint_X9_isDepth : GoodIn wsX9_addPrint wsX9_isDepth := goodIn_r _ [34] (by decide +kernel) (by decide +kernel)
set_option maxRecDepth 20000 in
theorem gX9_addPrint_X9_isDepth : GoodIn wsX9_addPrint (va_wsS RX9 107 yX9_isDepth wsX9_isDepth) := goodIn_app (goodIn_of _ (by decide +kernel)) ggX9_addPrint_X9_isDepth
set_option maxRecDepth 20000 in
theorem ggX9_addPrint_X0_objectionToPrint : GoodIn wsX9_addPrint wsX0_objectionToPrint := goodIn_r _ [38, 39, 40, 41, 42, 43, 44, 45, 15, 46, 47, 48, 49, 50, 51, 52, 53, 54, 55, 56, 57, 58, 59, 60, 61, 62, 63, 64, 65, 66, 67, 68, 69, 70, 71, 72, 73, 74, 75, 76, 77, 78, 79, 80, 81, 82, 83, 84, 85, 86, 87, 88, 168, 169, 170, 171, 172, 173, 174, 175, 176, 177, 178, 179, 180, 158, 159, 160, 161, 162, 163, 164] (by decide +kernel) (by decide +kernel)
set_option maxRecDepth 20000 in
theorem gX9_addPrint_X0_objectionToPrint : GoodIn wsX9_addPrint (wsV RX9 112 RX0 yX0_objectionToPrint wsX0_objectionToPrint) := goodIn_app (goodIn_of _ (by decide +kernel)) ggX9_addPrint_X0_objectionToPrint
set_option maxRecDepth 20000 in
theorem ggX9_addPrint_X9_rejectFor : GoodIn wsX9_addPrint wsX9_rejectFor := goodIn_ca (goodIn_r _ [92, 93, 94, 95, 148, 149, 150, 151, 152, 153, 154, 155, 156, 157] (by decide +kernel) (by decide +kernel)) (goodIn_sub (fun _ h => List.mem_cons_of_mem _ (List.mem_append_right _ h)) (by decide +kernel))
set_option maxRecDepth 20000 in
theorem gX9_addPrint_X9_rejectFor : GoodIn wsX9_addPrint (wsV RX9 81 RX9 yX9_rejectFor wsX9_rejectFor) := goodIn_app (goodIn_of _ (by decide +kernel)) ggX9_addPrint_X9_rejectFor
set_option maxRecDepth 20000 in
theorem ggX9_addPrint_X2_push : GoodIn wsX9_addPrint wsX2_push := goodIn_r _ [100, 101, 102, 103, 104, 105, 106, 107, 108, 109, 15, 110, 17, 51, 79, 111, 112, 113, 114, 115, 116, 117, 118, 119, 120, 121, 122, 123, 124, 125, 71, 126, 73, 127, 74, 128, 129, 130, 131, 132, 133, 134, 181, 182, 158, 159, 160, 161, 162, 163, 164, 165, 166, 167, 171, 172, 173, 174, 175, 176, 177, 178, 179, 180] (by decide +kernel) (by decide +kernel)
set_option maxRecDepth 20000 in
theorem gX9_addPrint_X2_push : GoodIn wsX9_addPrint (wsV RX9 85 RX2 yX2_push wsX2_push) := goodIn_app (goodIn_of _ (by decide +kernel)) ggX9_addPrint_X2_push
set_option maxRecDepth 20000 in
theorem ggX9_addPrint_X0_putPrint : GoodIn wsX9_addPrint wsX0_putPrint := goodIn_r _ [138, 51, 52, 112, 42, 139, 67, 53, 88, 140, 141, 142, 143, 144, 145, 146, 15, 147, 68, 69, 70, 71, 72, 73, 74, 158, 159, 160, 161, 162, 163, 164, 171, 172, 173, 174, 175, 176, 177, 178, 179, 180] (by decide +kernel) (by decide +kernel)
set_option maxRecDepth 20000 in
theorem gX9_addPrint_X0_putPrint : GoodIn wsX9_addPrint (wsV RX9 116 RX0 yX0_putPrint wsX0_putPrint) := goodIn_app (goodIn_of _ (by decide +kernel)) ggX9_addPrint_X0_putPrint
theorem dX9_addPrint_0 : decode cX9_addPrint 0 = .ok (.aload_n 0, 1) := by decide +kernel
theorem dX9_addPrint_1 : decode cX9_addPrint 1 = .ok (.iload_n 1, 1) := by decide +kernel
theorem dX9_addPrint_2 : decode cX9_addPrint 2 = .ok (.invokevirtual 92, 3) := by decide +kernel
theorem dX9_addPrint_5 : decode cX9_addPrint 5 = .ok (.pop, 1) := by decide +kernel
theorem dX9_addPrint_6 : decode cX9_addPrint 6 = .ok (.iload_n 3, 1) := by decide +kernel
theorem dX9_addPrint_7 : decode cX9_addPrint 7 = .ok (.iload 4, 2) := by decide +kernel
theorem dX9_addPrint_9 : decode cX9_addPrint 9 = .ok (.invokestatic 100, 3) := by decide +kernel
theorem dX9_addPrint_12 : decode cX9_addPrint 12 = .ok (.iload_n 2, 1) := by decide +kernel
theorem dX9_addPrint_13 : decode cX9_addPrint 13 = .ok (.invokestatic 104, 3) := by decide +kernel
theorem dX9_addPrint_16 : decode cX9_addPrint 16 = .ok (.ifCond .eq 11, 3) := by decide +kernel
theorem dX9_addPrint_19 : decode cX9_addPrint 19 = .ok (.iload 6, 2) := by decide +kernel
theorem dX9_addPrint_21 : decode cX9_addPrint 21 = .ok (.invokestatic 107, 3) := by decide +kernel
theorem dX9_addPrint_24 : decode cX9_addPrint 24 = .ok (.ifCond .ne 13, 3) := by decide +kernel
theorem dX9_addPrint_27 : decode cX9_addPrint 27 = .ok (.new 70, 3) := by decide +kernel
theorem dX9_addPrint_30 : decode cX9_addPrint 30 = .ok (.dup, 1) := by decide +kernel
theorem dX9_addPrint_31 : decode cX9_addPrint 31 = .ok (.ldc 110, 2) := by decide +kernel
theorem dX9_addPrint_33 : decode cX9_addPrint 33 = .ok (.invokespecial 74, 3) := by decide +kernel
theorem dX9_addPrint_36 : decode cX9_addPrint 36 = .ok (.athrow, 1) := by decide +kernel
theorem dX9_addPrint_37 : decode cX9_addPrint 37 = .ok (.aload_n 0, 1) := by decide +kernel
theorem dX9_addPrint_38 : decode cX9_addPrint 38 = .ok (.aload_n 0, 1) := by decide +kernel
theorem dX9_addPrint_39 : decode cX9_addPrint 39 = .ok (.getfield 12, 3) := by decide +kernel
theorem dX9_addPrint_42 : decode cX9_addPrint 42 = .ok (.iload_n 1, 1) := by decide +kernel
theorem dX9_addPrint_43 : decode cX9_addPrint 43 = .ok (.iload_n 2, 1) := by decide +kernel
theorem dX9_addPrint_44 : decode cX9_addPrint 44 = .ok (.iload_n 3, 1) := by decide +kernel
theorem dX9_addPrint_45 : decode cX9_addPrint 45 = .ok (.iload 4, 2) := by decide +kernel
theorem dX9_addPrint_47 : decode cX9_addPrint 47 = .ok (.invokevirtual 112, 3) := by decide +kernel
theorem dX9_addPrint_50 : decode cX9_addPrint 50 = .ok (.invokevirtual 81, 3) := by decide +kernel
theorem dX9_addPrint_53 : decode cX9_addPrint 53 = .ok (.aload_n 0, 1) := by decide +kernel
theorem dX9_addPrint_54 : decode cX9_addPrint 54 = .ok (.getfield 28, 3) := by decide +kernel
theorem dX9_addPrint_57 : decode cX9_addPrint 57 = .ok (.aload_n 0, 1) := by decide +kernel
theorem dX9_addPrint_58 : decode cX9_addPrint 58 = .ok (.getfield 12, 3) := by decide +kernel
theorem dX9_addPrint_61 : decode cX9_addPrint 61 = .ok (.invokevirtual 85, 3) := by decide +kernel
theorem dX9_addPrint_64 : decode cX9_addPrint 64 = .ok (.aload_n 0, 1) := by decide +kernel
theorem dX9_addPrint_65 : decode cX9_addPrint 65 = .ok (.getfield 12, 3) := by decide +kernel
theorem dX9_addPrint_68 : decode cX9_addPrint 68 = .ok (.iload_n 1, 1) := by decide +kernel
theorem dX9_addPrint_69 : decode cX9_addPrint 69 = .ok (.iload_n 2, 1) := by decide +kernel
theorem dX9_addPrint_70 : decode cX9_addPrint 70 = .ok (.iload_n 3, 1) := by decide +kernel
theorem dX9_addPrint_71 : decode cX9_addPrint 71 = .ok (.iload 4, 2) := by decide +kernel
theorem dX9_addPrint_73 : decode cX9_addPrint 73 = .ok (.iload 5, 2) := by decide +kernel
theorem dX9_addPrint_75 : decode cX9_addPrint 75 = .ok (.iload 6, 2) := by decide +kernel
theorem dX9_addPrint_77 : decode cX9_addPrint 77 = .ok (.invokevirtual 116, 3) := by decide +kernel
theorem dX9_addPrint_80 : decode cX9_addPrint 80 = .ok (.ireturn, 1) := by decide +kernel
set_option maxRecDepth 20000 in
theorem ggX9_removePrint_X9_requirePrint : GoodIn wsX9_removePrint wsX9_requirePrint := goodIn_ca (goodIn_r _ [8, 9, 10, 2, 11, 12, 13, 14, 15, 16, 17, 18, 67, 68, 69, 70, 71, 72, 73, 74, 75, 76, 87, 88, 89, 90, 91, 92, 93, 77, 78, 79, 80, 81, 82, 83, 84, 85, 86] (by decide +kernel) (by decide +kernel)) (goodIn_sub (fun _ h => List.mem_cons_of_mem _ (List.mem_append_right _ h)) (by decide +kernel))
set_option maxRecDepth 20000 in
theorem gX9_removePrint_X9_requirePrint : GoodIn wsX9_removePrint (wsV RX9 120 RX9 yX9_requirePrint wsX9_requirePrint) := goodIn_app (goodIn_of _ (by decide +kernel)) ggX9_removePrint_X9_requirePrint
set_option maxRecDepth 20000 in
theorem ggX9_removePrint_X2_push : GoodIn wsX9_removePrint wsX2_push := goodIn_r _ [23, 24, 25, 26, 27, 28, 29, 30, 31, 32, 14, 33, 34, 16, 35, 36, 37, 38, 39, 40, 41, 42, 43, 44, 45, 46, 47, 48, 49, 50, 51, 52, 53, 54, 55, 56, 57, 58, 59, 60, 61, 62, 94, 95, 87, 88, 89, 90, 91, 92, 93, 96, 97, 98, 77, 78, 79, 80, 81, 82, 83, 84, 85, 86] (by decide +kernel) (by decide +kernel)
set_option maxRecDepth 20000 in
theorem gX9_removePrint_X2_push : GoodIn wsX9_removePrint (wsV RX9 85 RX2 yX2_push wsX2_push) := goodIn_app (goodIn_of _ (by decide +kernel)) ggX9_removePrint_X2_push
set_option maxRecDepth 20000 in
theorem ggX9_removePrint_X0_dropPrint : GoodIn wsX9_removePrint wsX0_dropPrint := goodIn_r _ [66, 17, 77, 78, 79, 80, 81, 82, 83, 84, 85, 86] (by decide +kernel) (by decide +kernel)
set_option maxRecDepth 20000 in
theorem gX9_removePrint_X0_dropPrint : GoodIn wsX9_removePrint (wsV RX9 124 RX0 yX0_dropPrint wsX0_dropPrint) := goodIn_app (goodIn_of _ (by decide +kernel)) ggX9_removePrint_X0_dropPrint
theorem dX9_removePrint_0 : decode cX9_removePrint 0 = .ok (.aload_n 0, 1) := by decide +kernel
theorem dX9_removePrint_1 : decode cX9_removePrint 1 = .ok (.iload_n 1, 1) := by decide +kernel
theorem dX9_removePrint_2 : decode cX9_removePrint 2 = .ok (.invokevirtual 120, 3) := by decide +kernel
theorem dX9_removePrint_5 : decode cX9_removePrint 5 = .ok (.astore_n 2, 1) := by decide +kernel
theorem dX9_removePrint_6 : decode cX9_removePrint 6 = .ok (.aload_n 0, 1) := by decide +kernel
theorem dX9_removePrint_7 : decode cX9_removePrint 7 = .ok (.getfield 28, 3) := by decide +kernel
theorem dX9_removePrint_10 : decode cX9_removePrint 10 = .ok (.aload_n 0, 1) := by decide +kernel
theorem dX9_removePrint_11 : decode cX9_removePrint 11 = .ok (.getfield 12, 3) := by decide +kernel
theorem dX9_removePrint_14 : decode cX9_removePrint 14 = .ok (.invokevirtual 85, 3) := by decide +kernel
theorem dX9_removePrint_17 : decode cX9_removePrint 17 = .ok (.aload_n 0, 1) := by decide +kernel
theorem dX9_removePrint_18 : decode cX9_removePrint 18 = .ok (.getfield 12, 3) := by decide +kernel
theorem dX9_removePrint_21 : decode cX9_removePrint 21 = .ok (.aload_n 2, 1) := by decide +kernel
theorem dX9_removePrint_22 : decode cX9_removePrint 22 = .ok (.invokevirtual 124, 3) := by decide +kernel
theorem dX9_removePrint_25 : decode cX9_removePrint 25 = .ok (.aload_n 2, 1) := by decide +kernel
theorem dX9_removePrint_26 : decode cX9_removePrint 26 = .ok (.getfield 128, 3) := by decide +kernel
theorem dX9_removePrint_29 : decode cX9_removePrint 29 = .ok (.ireturn, 1) := by decide +kernel
set_option maxRecDepth 20000 in
theorem ggX9_correctHeel_X9_requirePrint : GoodIn wsX9_correctHeel wsX9_requirePrint := goodIn_ca (goodIn_r _ [7, 8, 9, 1, 10, 11, 12, 13, 14, 15, 16, 17, 119, 120, 121, 122, 123, 124, 125, 126, 127, 128, 129, 130, 131, 132, 133, 134, 135, 136, 137, 138, 139, 140, 141, 142, 143, 144, 145] (by decide +kernel) (by decide +kernel)) (goodIn_sub (fun _ h => List.mem_cons_of_mem _ (List.mem_append_left _ (List.mem_append_right _ h))) (by decide +kernel))
set_option maxRecDepth 20000 in
theorem gX9_correctHeel_X9_requirePrint : GoodIn wsX9_correctHeel (wsV RX9 120 RX9 yX9_requirePrint wsX9_requirePrint) := goodIn_app (goodIn_of _ (by decide +kernel)) ggX9_correctHeel_X9_requirePrint
set_option maxRecDepth 20000 in
theorem ggX9_correctHeel_X9_requireCell : GoodIn wsX9_correctHeel wsX9_requireCell := goodIn_ca (goodIn_r _ [20, 8, 9, 21, 22, 6, 23, 24, 25, 26] (by decide +kernel) (by decide +kernel)) (goodIn_sub (fun _ h => List.mem_cons_of_mem _ (List.mem_append_left _ (List.mem_append_right _ h))) (by decide +kernel))
set_option maxRecDepth 20000 in
theorem gX9_correctHeel_X9_requireCell : GoodIn wsX9_correctHeel (va_wsS RX9 100 yX9_requireCell wsX9_requireCell) := goodIn_app (goodIn_of _ (by decide +kernel)) ggX9_correctHeel_X9_requireCell
set_option maxRecDepth 20000 in
theorem ggX9_correctHeel_X0_objectionToMove : GoodIn wsX9_correctHeel wsX0_objectionToMove := goodIn_r _ [30, 31, 32, 33, 34, 35, 36, 37, 38, 39, 40, 41, 42, 43, 44, 45, 46, 47, 48, 49, 50, 51, 52, 53, 54, 55, 56, 13, 57, 58, 17, 59, 60, 61, 62, 63, 64, 65, 66, 15, 16, 67, 68, 146, 147, 148, 136, 137, 138, 139, 140, 141, 142, 143, 144, 145, 129, 130, 131, 132, 133, 134, 135] (by decide +kernel) (by decide +kernel)
set_option maxRecDepth 20000 in
theorem gX9_correctHeel_X0_objectionToMove : GoodIn wsX9_correctHeel (wsV RX9 133 RX0 yX0_objectionToMove wsX0_objectionToMove) := goodIn_app (goodIn_of _ (by decide +kernel)) ggX9_correctHeel_X0_objectionToMove
set_option maxRecDepth 20000 in
theorem ggX9_correctHeel_X9_rejectFor : GoodIn wsX9_correctHeel wsX9_rejectFor := goodIn_ca (goodIn_r _ [72, 73, 74, 75, 119, 120, 121, 122, 123, 124, 125, 126, 127, 128] (by decide +kernel) (by decide +kernel)) (goodIn_sub (fun _ h => List.mem_cons_of_mem _ (List.mem_append_right _ h)) (by decide +kernel))
set_option maxRecDepth 20000 in
theorem gX9_correctHeel_X9_rejectFor : GoodIn wsX9_correctHeel (wsV RX9 81 RX9 yX9_rejectFor wsX9_rejectFor) := goodIn_app (goodIn_of _ (by decide +kernel)) ggX9_correctHeel_X9_rejectFor
set_option maxRecDepth 20000 in
theorem ggX9_correctHeel_X2_push : GoodIn wsX9_correctHeel wsX2_push := goodIn_r _ [80, 81, 82, 83, 84, 42, 85, 86, 87, 88, 13, 89, 90, 15, 58, 91, 92, 93, 94, 95, 96, 97, 98, 99, 100, 101, 102, 103, 104, 105, 37, 106, 107, 108, 109, 110, 39, 44, 111, 112, 113, 114, 149, 150, 129, 130, 131, 132, 133, 134, 135, 151, 152, 153, 136, 137, 138, 139, 140, 141, 142, 143, 144, 145] (by decide +kernel) (by decide +kernel)
set_option maxRecDepth 20000 in
theorem gX9_correctHeel_X2_push : GoodIn wsX9_correctHeel (wsV RX9 85 RX2 yX2_push wsX2_push) := goodIn_app (goodIn_of _ (by decide +kernel)) ggX9_correctHeel_X2_push
set_option maxRecDepth 20000 in
theorem ggX9_correctHeel_X0_moveHeel : GoodIn wsX9_correctHeel wsX0_moveHeel := goodIn_r _ [118, 67, 68, 94, 34, 35, 36, 37, 38, 39, 40, 41, 42, 43, 44, 136, 137, 138, 139, 140, 141, 142, 143, 144, 145, 129, 130, 131, 132, 133, 134, 135] (by decide +kernel) (by decide +kernel)
set_option maxRecDepth 20000 in
theorem gX9_correctHeel_X0_moveHeel : GoodIn wsX9_correctHeel (wsV RX9 137 RX0 yX0_moveHeel wsX0_moveHeel) := goodIn_app (goodIn_of _ (by decide +kernel)) ggX9_correctHeel_X0_moveHeel
theorem dX9_correctHeel_0 : decode cX9_correctHeel 0 = .ok (.aload_n 0, 1) := by decide +kernel
theorem dX9_correctHeel_1 : decode cX9_correctHeel 1 = .ok (.iload_n 1, 1) := by decide +kernel
theorem dX9_correctHeel_2 : decode cX9_correctHeel 2 = .ok (.invokevirtual 120, 3) := by decide +kernel
theorem dX9_correctHeel_5 : decode cX9_correctHeel 5 = .ok (.astore 4, 2) := by decide +kernel
theorem dX9_correctHeel_7 : decode cX9_correctHeel 7 = .ok (.iload_n 2, 1) := by decide +kernel
theorem dX9_correctHeel_8 : decode cX9_correctHeel 8 = .ok (.iload_n 3, 1) := by decide +kernel
theorem dX9_correctHeel_9 : decode cX9_correctHeel 9 = .ok (.invokestatic 100, 3) := by decide +kernel
theorem dX9_correctHeel_12 : decode cX9_correctHeel 12 = .ok (.aload_n 0, 1) := by decide +kernel
theorem dX9_correctHeel_13 : decode cX9_correctHeel 13 = .ok (.aload_n 0, 1) := by decide +kernel
theorem dX9_correctHeel_14 : decode cX9_correctHeel 14 = .ok (.getfield 12, 3) := by decide +kernel
theorem dX9_correctHeel_17 : decode cX9_correctHeel 17 = .ok (.aload 4, 2) := by decide +kernel
theorem dX9_correctHeel_19 : decode cX9_correctHeel 19 = .ok (.iload_n 2, 1) := by decide +kernel
theorem dX9_correctHeel_20 : decode cX9_correctHeel 20 = .ok (.iload_n 3, 1) := by decide +kernel
theorem dX9_correctHeel_21 : decode cX9_correctHeel 21 = .ok (.invokevirtual 133, 3) := by decide +kernel
theorem dX9_correctHeel_24 : decode cX9_correctHeel 24 = .ok (.invokevirtual 81, 3) := by decide +kernel
theorem dX9_correctHeel_27 : decode cX9_correctHeel 27 = .ok (.aload_n 0, 1) := by decide +kernel
theorem dX9_correctHeel_28 : decode cX9_correctHeel 28 = .ok (.getfield 28, 3) := by decide +kernel
theorem dX9_correctHeel_31 : decode cX9_correctHeel 31 = .ok (.aload_n 0, 1) := by decide +kernel
theorem dX9_correctHeel_32 : decode cX9_correctHeel 32 = .ok (.getfield 12, 3) := by decide +kernel
theorem dX9_correctHeel_35 : decode cX9_correctHeel 35 = .ok (.invokevirtual 85, 3) := by decide +kernel
theorem dX9_correctHeel_38 : decode cX9_correctHeel 38 = .ok (.aload_n 0, 1) := by decide +kernel
theorem dX9_correctHeel_39 : decode cX9_correctHeel 39 = .ok (.getfield 12, 3) := by decide +kernel
theorem dX9_correctHeel_42 : decode cX9_correctHeel 42 = .ok (.aload 4, 2) := by decide +kernel
theorem dX9_correctHeel_44 : decode cX9_correctHeel 44 = .ok (.iload_n 2, 1) := by decide +kernel
theorem dX9_correctHeel_45 : decode cX9_correctHeel 45 = .ok (.iload_n 3, 1) := by decide +kernel
theorem dX9_correctHeel_46 : decode cX9_correctHeel 46 = .ok (.invokevirtual 137, 3) := by decide +kernel
theorem dX9_correctHeel_49 : decode cX9_correctHeel 49 = .ok (.ireturn, 1) := by decide +kernel
set_option maxRecDepth 20000 in
theorem ggX9_swapFoot_X9_requirePrint : GoodIn wsX9_swapFoot wsX9_requirePrint := goodIn_ca (goodIn_r _ [7, 8, 9, 2, 10, 11, 12, 13, 14, 15, 16, 17, 66, 67, 68, 69, 70, 71, 72, 73, 74, 75, 76, 77, 78, 79, 80, 81, 82, 83, 84, 85, 86, 87, 88, 89, 90, 91, 92] (by decide +kernel) (by decide +kernel)) (goodIn_sub (fun _ h => List.mem_cons_of_mem _ (List.mem_append_right _ h)) (by decide +kernel))
set_option maxRecDepth 20000 in
theorem gX9_swapFoot_X9_requirePrint : GoodIn wsX9_swapFoot (wsV RX9 120 RX9 yX9_requirePrint wsX9_requirePrint) := goodIn_app (goodIn_of _ (by decide +kernel)) ggX9_swapFoot_X9_requirePrint
set_option maxRecDepth 20000 in
theorem ggX9_swapFoot_X2_push : GoodIn wsX9_swapFoot wsX2_push := goodIn_r _ [22, 23, 24, 25, 26, 27, 28, 29, 30, 31, 13, 32, 33, 15, 34, 35, 36, 37, 38, 39, 40, 41, 42, 43, 44, 45, 46, 47, 48, 49, 50, 51, 52, 53, 54, 55, 56, 57, 58, 59, 60, 61, 93, 94, 76, 77, 78, 79, 80, 81, 82, 95, 96, 97, 83, 84, 85, 86, 87, 88, 89, 90, 91, 92] (by decide +kernel) (by decide +kernel)
set_option maxRecDepth 20000 in
theorem gX9_swapFoot_X2_push : GoodIn wsX9_swapFoot (wsV RX9 85 RX2 yX2_push wsX2_push) := goodIn_app (goodIn_of _ (by decide +kernel)) ggX9_swapFoot_X2_push
set_option maxRecDepth 20000 in
theorem ggX9_swapFoot_X3_turnOver : GoodIn wsX9_swapFoot wsX3_turnOver := goodIn_r _ [65, 58, 83, 84, 85, 86, 87, 88, 89, 90, 91, 92] (by decide +kernel) (by decide +kernel)
set_option maxRecDepth 20000 in
theorem gX9_swapFoot_X3_turnOver : GoodIn wsX9_swapFoot (wsV RX9 141 RX3 yX3_turnOver wsX3_turnOver) := goodIn_app (goodIn_of _ (by decide +kernel)) ggX9_swapFoot_X3_turnOver
theorem dX9_swapFoot_0 : decode cX9_swapFoot 0 = .ok (.aload_n 0, 1) := by decide +kernel
theorem dX9_swapFoot_1 : decode cX9_swapFoot 1 = .ok (.iload_n 1, 1) := by decide +kernel
theorem dX9_swapFoot_2 : decode cX9_swapFoot 2 = .ok (.invokevirtual 120, 3) := by decide +kernel
theorem dX9_swapFoot_5 : decode cX9_swapFoot 5 = .ok (.astore_n 2, 1) := by decide +kernel
theorem dX9_swapFoot_6 : decode cX9_swapFoot 6 = .ok (.aload_n 0, 1) := by decide +kernel
theorem dX9_swapFoot_7 : decode cX9_swapFoot 7 = .ok (.getfield 28, 3) := by decide +kernel
theorem dX9_swapFoot_10 : decode cX9_swapFoot 10 = .ok (.aload_n 0, 1) := by decide +kernel
theorem dX9_swapFoot_11 : decode cX9_swapFoot 11 = .ok (.getfield 12, 3) := by decide +kernel
theorem dX9_swapFoot_14 : decode cX9_swapFoot 14 = .ok (.invokevirtual 85, 3) := by decide +kernel
theorem dX9_swapFoot_17 : decode cX9_swapFoot 17 = .ok (.aload_n 2, 1) := by decide +kernel
theorem dX9_swapFoot_18 : decode cX9_swapFoot 18 = .ok (.invokevirtual 141, 3) := by decide +kernel
theorem dX9_swapFoot_21 : decode cX9_swapFoot 21 = .ok (.ireturn, 1) := by decide +kernel
set_option maxRecDepth 20000 in
theorem ggX9_doubtToes_X9_requirePrint : GoodIn wsX9_doubtToes wsX9_requirePrint := goodIn_ca (goodIn_r _ [7, 8, 9, 1, 10, 11, 12, 13, 14, 15, 16, 17, 90, 91, 92, 93, 94, 95, 96, 97, 98, 99, 100, 101, 102, 103, 104, 105, 106, 107, 108, 109, 110, 111, 112, 113, 114, 115, 116] (by decide +kernel) (by decide +kernel)) (goodIn_sub (fun _ h => List.mem_cons_of_mem _ (List.mem_append_left _ (List.mem_append_right _ h))) (by decide +kernel))
set_option maxRecDepth 20000 in
theorem gX9_doubtToes_X9_requirePrint : GoodIn wsX9_doubtToes (wsV RX9 120 RX9 yX9_requirePrint wsX9_requirePrint) := goodIn_app (goodIn_of _ (by decide +kernel)) ggX9_doubtToes_X9_requirePrint
set_option maxRecDepth 20000 in
theorem ggX9_doubtToes_X0_objectionToDoubt : GoodIn wsX9_doubtToes wsX0_objectionToDoubt := goodIn_r _ [21, 22, 23, 24, 25, 26, 27, 28, 29, 30, 31, 32, 33, 34, 107, 108, 109, 110, 111, 112, 113, 114, 115, 116, 117, 118, 119] (by decide +kernel) (by decide +kernel)
set_option maxRecDepth 20000 in
theorem gX9_doubtToes_X0_objectionToDoubt : GoodIn wsX9_doubtToes (wsV RX9 145 RX0 yX0_objectionToDoubt wsX0_objectionToDoubt) := goodIn_app (goodIn_of _ (by decide +kernel)) ggX9_doubtToes_X0_objectionToDoubt
set_option maxRecDepth 20000 in
theorem ggX9_doubtToes_X9_rejectFor : GoodIn wsX9_doubtToes wsX9_rejectFor := goodIn_ca (goodIn_r _ [38, 39, 40, 41, 90, 91, 92, 93, 94, 95, 96, 97, 98, 99] (by decide +kernel) (by decide +kernel)) (goodIn_sub (fun _ h => List.mem_cons_of_mem _ (List.mem_append_right _ h)) (by decide +kernel))
set_option maxRecDepth 20000 in
theorem gX9_doubtToes_X9_rejectFor : GoodIn wsX9_doubtToes (wsV RX9 81 RX9 yX9_rejectFor wsX9_rejectFor) := goodIn_app (goodIn_of _ (by decide +kernel)) ggX9_doubtToes_X9_rejectFor
set_option maxRecDepth 20000 in
theorem ggX9_doubtToes_X2_push : GoodIn wsX9_doubtToes wsX2_push := goodIn_r _ [46, 47, 48, 49, 50, 51, 52, 53, 54, 55, 13, 56, 57, 15, 58, 59, 60, 61, 62, 63, 64, 65, 66, 67, 68, 69, 70, 71, 72, 73, 74, 75, 76, 77, 78, 79, 80, 81, 82, 83, 84, 85, 120, 121, 100, 101, 102, 103, 104, 105, 106, 122, 123, 124, 107, 108, 109, 110, 111, 112, 113, 114, 115, 116] (by decide +kernel) (by decide +kernel)
set_option maxRecDepth 20000 in
theorem gX9_doubtToes_X2_push : GoodIn wsX9_doubtToes (wsV RX9 85 RX2 yX2_push wsX2_push) := goodIn_app (goodIn_of _ (by decide +kernel)) ggX9_doubtToes_X2_push
set_option maxRecDepth 20000 in
theorem ggX9_doubtToes_X3_raiseDoubt : GoodIn wsX9_doubtToes wsX3_raiseDoubt := goodIn_r _ [89, 84, 107, 108, 109, 110, 111, 112, 113, 114, 115, 116] (by decide +kernel) (by decide +kernel)
set_option maxRecDepth 20000 in
theorem gX9_doubtToes_X3_raiseDoubt : GoodIn wsX9_doubtToes (wsV RX9 149 RX3 yX3_raiseDoubt wsX3_raiseDoubt) := goodIn_app (goodIn_of _ (by decide +kernel)) ggX9_doubtToes_X3_raiseDoubt
theorem dX9_doubtToes_0 : decode cX9_doubtToes 0 = .ok (.aload_n 0, 1) := by decide +kernel
theorem dX9_doubtToes_1 : decode cX9_doubtToes 1 = .ok (.iload_n 1, 1) := by decide +kernel
theorem dX9_doubtToes_2 : decode cX9_doubtToes 2 = .ok (.invokevirtual 120, 3) := by decide +kernel
theorem dX9_doubtToes_5 : decode cX9_doubtToes 5 = .ok (.astore_n 2, 1) := by decide +kernel
theorem dX9_doubtToes_6 : decode cX9_doubtToes 6 = .ok (.aload_n 0, 1) := by decide +kernel
theorem dX9_doubtToes_7 : decode cX9_doubtToes 7 = .ok (.aload_n 0, 1) := by decide +kernel
theorem dX9_doubtToes_8 : decode cX9_doubtToes 8 = .ok (.getfield 12, 3) := by decide +kernel
theorem dX9_doubtToes_11 : decode cX9_doubtToes 11 = .ok (.aload_n 2, 1) := by decide +kernel
theorem dX9_doubtToes_12 : decode cX9_doubtToes 12 = .ok (.invokevirtual 145, 3) := by decide +kernel
theorem dX9_doubtToes_15 : decode cX9_doubtToes 15 = .ok (.invokevirtual 81, 3) := by decide +kernel
theorem dX9_doubtToes_18 : decode cX9_doubtToes 18 = .ok (.aload_n 0, 1) := by decide +kernel
theorem dX9_doubtToes_19 : decode cX9_doubtToes 19 = .ok (.getfield 28, 3) := by decide +kernel
theorem dX9_doubtToes_22 : decode cX9_doubtToes 22 = .ok (.aload_n 0, 1) := by decide +kernel
theorem dX9_doubtToes_23 : decode cX9_doubtToes 23 = .ok (.getfield 12, 3) := by decide +kernel
theorem dX9_doubtToes_26 : decode cX9_doubtToes 26 = .ok (.invokevirtual 85, 3) := by decide +kernel
theorem dX9_doubtToes_29 : decode cX9_doubtToes 29 = .ok (.aload_n 2, 1) := by decide +kernel
theorem dX9_doubtToes_30 : decode cX9_doubtToes 30 = .ok (.invokevirtual 149, 3) := by decide +kernel
theorem dX9_doubtToes_33 : decode cX9_doubtToes 33 = .ok (.ireturn, 1) := by decide +kernel
set_option maxRecDepth 20000 in
theorem ggX9_confirmToes_X9_requirePrint : GoodIn wsX9_confirmToes wsX9_requirePrint := goodIn_ca (goodIn_r _ [7, 8, 9, 1, 10, 11, 12, 13, 14, 15, 16, 17, 90, 91, 92, 93, 94, 95, 96, 97, 98, 99, 100, 101, 102, 103, 104, 105, 106, 107, 108, 109, 110, 111, 112, 113, 114, 115, 116] (by decide +kernel) (by decide +kernel)) (goodIn_sub (fun _ h => List.mem_cons_of_mem _ (List.mem_append_left _ (List.mem_append_right _ h))) (by decide +kernel))
set_option maxRecDepth 20000 in
theorem gX9_confirmToes_X9_requirePrint : GoodIn wsX9_confirmToes (wsV RX9 120 RX9 yX9_requirePrint wsX9_requirePrint) := goodIn_app (goodIn_of _ (by decide +kernel)) ggX9_confirmToes_X9_requirePrint
set_option maxRecDepth 20000 in
theorem ggX9_confirmToes_X0_objectionToConfirmation : GoodIn wsX9_confirmToes wsX0_objectionToConfirmation := goodIn_r _ [21, 22, 23, 24, 25, 26, 27, 28, 29, 30, 31, 32, 33, 34, 107, 108, 109, 110, 111, 112, 113, 114, 115, 116, 117, 118, 119] (by decide +kernel) (by decide +kernel)
set_option maxRecDepth 20000 in
theorem gX9_confirmToes_X0_objectionToConfirmation : GoodIn wsX9_confirmToes (wsV RX9 153 RX0 yX0_objectionToConfirmation wsX0_objectionToConfirmation) := goodIn_app (goodIn_of _ (by decide +kernel)) ggX9_confirmToes_X0_objectionToConfirmation
set_option maxRecDepth 20000 in
theorem ggX9_confirmToes_X9_rejectFor : GoodIn wsX9_confirmToes wsX9_rejectFor := goodIn_ca (goodIn_r _ [38, 39, 40, 41, 90, 91, 92, 93, 94, 95, 96, 97, 98, 99] (by decide +kernel) (by decide +kernel)) (goodIn_sub (fun _ h => List.mem_cons_of_mem _ (List.mem_append_right _ h)) (by decide +kernel))
set_option maxRecDepth 20000 in
theorem gX9_confirmToes_X9_rejectFor : GoodIn wsX9_confirmToes (wsV RX9 81 RX9 yX9_rejectFor wsX9_rejectFor) := goodIn_app (goodIn_of _ (by decide +kernel)) ggX9_confirmToes_X9_rejectFor
set_option maxRecDepth 20000 in
theorem ggX9_confirmToes_X2_push : GoodIn wsX9_confirmToes wsX2_push := goodIn_r _ [46, 47, 48, 49, 50, 51, 52, 53, 54, 55, 13, 56, 57, 15, 58, 59, 60, 61, 62, 63, 64, 65, 66, 67, 68, 69, 70, 71, 72, 73, 74, 75, 76, 77, 78, 79, 80, 81, 82, 83, 84, 85, 120, 121, 100, 101, 102, 103, 104, 105, 106, 122, 123, 124, 107, 108, 109, 110, 111, 112, 113, 114, 115, 116] (by decide +kernel) (by decide +kernel)
set_option maxRecDepth 20000 in
theorem gX9_confirmToes_X2_push : GoodIn wsX9_confirmToes (wsV RX9 85 RX2 yX2_push wsX2_push) := goodIn_app (goodIn_of _ (by decide +kernel)) ggX9_confirmToes_X2_push
set_option maxRecDepth 20000 in
theorem ggX9_confirmToes_X3_settleDoubts : GoodIn wsX9_confirmToes wsX3_settleDoubts := goodIn_r _ [89, 84, 107, 108, 109, 110, 111, 112, 113, 114, 115, 116] (by decide +kernel) (by decide +kernel)
set_option maxRecDepth 20000 in
theorem gX9_confirmToes_X3_settleDoubts : GoodIn wsX9_confirmToes (wsV RX9 156 RX3 yX3_settleDoubts wsX3_settleDoubts) := goodIn_app (goodIn_of _ (by decide +kernel)) ggX9_confirmToes_X3_settleDoubts
theorem dX9_confirmToes_0 : decode cX9_confirmToes 0 = .ok (.aload_n 0, 1) := by decide +kernel
theorem dX9_confirmToes_1 : decode cX9_confirmToes 1 = .ok (.iload_n 1, 1) := by decide +kernel
theorem dX9_confirmToes_2 : decode cX9_confirmToes 2 = .ok (.invokevirtual 120, 3) := by decide +kernel
theorem dX9_confirmToes_5 : decode cX9_confirmToes 5 = .ok (.astore_n 2, 1) := by decide +kernel
theorem dX9_confirmToes_6 : decode cX9_confirmToes 6 = .ok (.aload_n 0, 1) := by decide +kernel
theorem dX9_confirmToes_7 : decode cX9_confirmToes 7 = .ok (.aload_n 0, 1) := by decide +kernel
theorem dX9_confirmToes_8 : decode cX9_confirmToes 8 = .ok (.getfield 12, 3) := by decide +kernel
theorem dX9_confirmToes_11 : decode cX9_confirmToes 11 = .ok (.aload_n 2, 1) := by decide +kernel
theorem dX9_confirmToes_12 : decode cX9_confirmToes 12 = .ok (.invokevirtual 153, 3) := by decide +kernel
theorem dX9_confirmToes_15 : decode cX9_confirmToes 15 = .ok (.invokevirtual 81, 3) := by decide +kernel
theorem dX9_confirmToes_18 : decode cX9_confirmToes 18 = .ok (.aload_n 0, 1) := by decide +kernel
theorem dX9_confirmToes_19 : decode cX9_confirmToes 19 = .ok (.getfield 28, 3) := by decide +kernel
theorem dX9_confirmToes_22 : decode cX9_confirmToes 22 = .ok (.aload_n 0, 1) := by decide +kernel
theorem dX9_confirmToes_23 : decode cX9_confirmToes 23 = .ok (.getfield 12, 3) := by decide +kernel
theorem dX9_confirmToes_26 : decode cX9_confirmToes 26 = .ok (.invokevirtual 85, 3) := by decide +kernel
theorem dX9_confirmToes_29 : decode cX9_confirmToes 29 = .ok (.aload_n 2, 1) := by decide +kernel
theorem dX9_confirmToes_30 : decode cX9_confirmToes 30 = .ok (.invokevirtual 156, 3) := by decide +kernel
theorem dX9_confirmToes_33 : decode cX9_confirmToes 33 = .ok (.ireturn, 1) := by decide +kernel
set_option maxRecDepth 20000 in
theorem ggX9_setTide_X9_requireLevel : GoodIn wsX9_setTide wsX9_requireLevel := goodIn_ca (goodIn_r _ [6, 7, 8, 9, 10, 5, 11] (by decide +kernel) (by decide +kernel)) (goodIn_sub (fun _ h => List.mem_cons_of_mem _ (List.mem_append_left _ (List.mem_append_right _ h))) (by decide +kernel))
set_option maxRecDepth 20000 in
theorem gX9_setTide_X9_requireLevel : GoodIn wsX9_setTide (va_wsS RX9 159 yX9_requireLevel wsX9_requireLevel) := goodIn_app (goodIn_of _ (by decide +kernel)) ggX9_setTide_X9_requireLevel
set_option maxRecDepth 20000 in
theorem ggX9_setTide_X0_objectionToTide : GoodIn wsX9_setTide wsX0_objectionToTide := goodIn_r _ [16, 17, 18, 19, 20, 21, 22, 23, 24, 25, 26, 27, 28, 29, 101, 102, 103, 104, 105, 106, 107, 108, 109, 110] (by decide +kernel) (by decide +kernel)
set_option maxRecDepth 20000 in
theorem gX9_setTide_X0_objectionToTide : GoodIn wsX9_setTide (wsV RX9 163 RX0 yX0_objectionToTide wsX0_objectionToTide) := goodIn_app (goodIn_of _ (by decide +kernel)) ggX9_setTide_X0_objectionToTide
set_option maxRecDepth 20000 in
theorem ggX9_setTide_X9_rejectFor : GoodIn wsX9_setTide wsX9_rejectFor := goodIn_ca (goodIn_r _ [33, 34, 35, 36, 91, 92, 93, 94, 95, 96, 97, 98, 99, 100] (by decide +kernel) (by decide +kernel)) (goodIn_sub (fun _ h => List.mem_cons_of_mem _ (List.mem_append_right _ h)) (by decide +kernel))
set_option maxRecDepth 20000 in
theorem gX9_setTide_X9_rejectFor : GoodIn wsX9_setTide (wsV RX9 81 RX9 yX9_rejectFor wsX9_rejectFor) := goodIn_app (goodIn_of _ (by decide +kernel)) ggX9_setTide_X9_rejectFor
set_option maxRecDepth 20000 in
theorem ggX9_setTide_X2_push : GoodIn wsX9_setTide wsX2_push := goodIn_r _ [41, 42, 43, 44, 45, 46, 47, 48, 49, 50, 15, 51, 52, 53, 17, 54, 55, 56, 57, 58, 59, 60, 61, 62, 63, 64, 65, 66, 67, 68, 69, 70, 71, 72, 73, 74, 75, 76, 77, 78, 79, 80, 111, 112, 101, 102, 103, 104, 105, 106, 107, 113, 114, 115, 116, 117, 118, 119, 120, 121, 122, 123, 124, 125] (by decide +kernel) (by decide +kernel)
set_option maxRecDepth 20000 in
theorem gX9_setTide_X2_push : GoodIn wsX9_setTide (wsV RX9 85 RX2 yX2_push wsX2_push) := goodIn_app (goodIn_of _ (by decide +kernel)) ggX9_setTide_X2_push
set_option maxRecDepth 20000 in
theorem ggX9_setTide_X0_moveTide : GoodIn wsX9_setTide wsX0_moveTide := goodIn_r _ [84, 17, 53, 85, 86, 56, 87, 88, 89, 15, 90, 101, 102, 103, 104, 105, 106, 107, 116, 117, 118, 119, 120, 121, 122, 123, 124, 125] (by decide +kernel) (by decide +kernel)
set_option maxRecDepth 20000 in
theorem gX9_setTide_X0_moveTide : GoodIn wsX9_setTide (wsV RX9 167 RX0 yX0_moveTide wsX0_moveTide) := goodIn_app (goodIn_of _ (by decide +kernel)) ggX9_setTide_X0_moveTide
theorem dX9_setTide_0 : decode cX9_setTide 0 = .ok (.iload_n 1, 1) := by decide +kernel
theorem dX9_setTide_1 : decode cX9_setTide 1 = .ok (.invokestatic 159, 3) := by decide +kernel
theorem dX9_setTide_4 : decode cX9_setTide 4 = .ok (.aload_n 0, 1) := by decide +kernel
theorem dX9_setTide_5 : decode cX9_setTide 5 = .ok (.aload_n 0, 1) := by decide +kernel
theorem dX9_setTide_6 : decode cX9_setTide 6 = .ok (.getfield 12, 3) := by decide +kernel
theorem dX9_setTide_9 : decode cX9_setTide 9 = .ok (.iload_n 1, 1) := by decide +kernel
theorem dX9_setTide_10 : decode cX9_setTide 10 = .ok (.invokevirtual 163, 3) := by decide +kernel
theorem dX9_setTide_13 : decode cX9_setTide 13 = .ok (.invokevirtual 81, 3) := by decide +kernel
theorem dX9_setTide_16 : decode cX9_setTide 16 = .ok (.aload_n 0, 1) := by decide +kernel
theorem dX9_setTide_17 : decode cX9_setTide 17 = .ok (.getfield 28, 3) := by decide +kernel
theorem dX9_setTide_20 : decode cX9_setTide 20 = .ok (.aload_n 0, 1) := by decide +kernel
theorem dX9_setTide_21 : decode cX9_setTide 21 = .ok (.getfield 12, 3) := by decide +kernel
theorem dX9_setTide_24 : decode cX9_setTide 24 = .ok (.invokevirtual 85, 3) := by decide +kernel
theorem dX9_setTide_27 : decode cX9_setTide 27 = .ok (.aload_n 0, 1) := by decide +kernel
theorem dX9_setTide_28 : decode cX9_setTide 28 = .ok (.getfield 12, 3) := by decide +kernel
theorem dX9_setTide_31 : decode cX9_setTide 31 = .ok (.iload_n 1, 1) := by decide +kernel
theorem dX9_setTide_32 : decode cX9_setTide 32 = .ok (.invokevirtual 167, 3) := by decide +kernel
theorem dX9_setTide_35 : decode cX9_setTide 35 = .ok (.ireturn, 1) := by decide +kernel
set_option maxRecDepth 20000 in
theorem ggX9_trackOf_X9_requirePrint : GoodIn wsX9_trackOf wsX9_requirePrint := goodIn_ca (goodIn_r _ [6, 7, 8, 9, 10, 11, 12, 13, 14, 15, 16, 17, 28, 29, 30, 31, 32, 33, 34, 35, 36, 37, 38, 39, 40, 41, 42, 43, 44, 18, 19, 20, 21, 22, 23, 24, 25, 26, 27] (by decide +kernel) (by decide +kernel)) (goodIn_sub (fun _ h => List.mem_cons_of_mem _ (List.mem_append_right _ h)) (by decide +kernel))
set_option maxRecDepth 20000 in
theorem gX9_trackOf_X9_requirePrint : GoodIn wsX9_trackOf (wsV RX9 120 RX9 yX9_requirePrint wsX9_requirePrint) := goodIn_app (goodIn_of _ (by decide +kernel)) ggX9_trackOf_X9_requirePrint
theorem dX9_trackOf_0 : decode cX9_trackOf 0 = .ok (.aload_n 0, 1) := by decide +kernel
theorem dX9_trackOf_1 : decode cX9_trackOf 1 = .ok (.iload_n 1, 1) := by decide +kernel
theorem dX9_trackOf_2 : decode cX9_trackOf 2 = .ok (.invokevirtual 120, 3) := by decide +kernel
theorem dX9_trackOf_5 : decode cX9_trackOf 5 = .ok (.getfield 128, 3) := by decide +kernel
theorem dX9_trackOf_8 : decode cX9_trackOf 8 = .ok (.ireturn, 1) := by decide +kernel
set_option maxRecDepth 20000 in
theorem ggX9_timeOf_X9_requirePrint : GoodIn wsX9_timeOf wsX9_requirePrint := goodIn_ca (goodIn_r _ [6, 7, 8, 9, 10, 11, 12, 13, 14, 15, 16, 17, 28, 29, 30, 31, 32, 33, 34, 35, 36, 37, 38, 39, 40, 41, 42, 43, 44, 18, 19, 20, 21, 22, 23, 24, 25, 26, 27] (by decide +kernel) (by decide +kernel)) (goodIn_sub (fun _ h => List.mem_cons_of_mem _ (List.mem_append_right _ h)) (by decide +kernel))
set_option maxRecDepth 20000 in
theorem gX9_timeOf_X9_requirePrint : GoodIn wsX9_timeOf (wsV RX9 120 RX9 yX9_requirePrint wsX9_requirePrint) := goodIn_app (goodIn_of _ (by decide +kernel)) ggX9_timeOf_X9_requirePrint
theorem dX9_timeOf_0 : decode cX9_timeOf 0 = .ok (.aload_n 0, 1) := by decide +kernel
theorem dX9_timeOf_1 : decode cX9_timeOf 1 = .ok (.iload_n 1, 1) := by decide +kernel
theorem dX9_timeOf_2 : decode cX9_timeOf 2 = .ok (.invokevirtual 120, 3) := by decide +kernel
theorem dX9_timeOf_5 : decode cX9_timeOf 5 = .ok (.getfield 170, 3) := by decide +kernel
theorem dX9_timeOf_8 : decode cX9_timeOf 8 = .ok (.ireturn, 1) := by decide +kernel
set_option maxRecDepth 20000 in
theorem ggX9_rowOf_X9_requirePrint : GoodIn wsX9_rowOf wsX9_requirePrint := goodIn_ca (goodIn_r _ [6, 7, 8, 9, 10, 11, 12, 13, 14, 15, 16, 17, 28, 29, 30, 31, 32, 33, 34, 35, 36, 37, 38, 39, 40, 41, 42, 43, 44, 18, 19, 20, 21, 22, 23, 24, 25, 26, 27] (by decide +kernel) (by decide +kernel)) (goodIn_sub (fun _ h => List.mem_cons_of_mem _ (List.mem_append_right _ h)) (by decide +kernel))
set_option maxRecDepth 20000 in
theorem gX9_rowOf_X9_requirePrint : GoodIn wsX9_rowOf (wsV RX9 120 RX9 yX9_requirePrint wsX9_requirePrint) := goodIn_app (goodIn_of _ (by decide +kernel)) ggX9_rowOf_X9_requirePrint
theorem dX9_rowOf_0 : decode cX9_rowOf 0 = .ok (.aload_n 0, 1) := by decide +kernel
theorem dX9_rowOf_1 : decode cX9_rowOf 1 = .ok (.iload_n 1, 1) := by decide +kernel
theorem dX9_rowOf_2 : decode cX9_rowOf 2 = .ok (.invokevirtual 120, 3) := by decide +kernel
theorem dX9_rowOf_5 : decode cX9_rowOf 5 = .ok (.getfield 173, 3) := by decide +kernel
theorem dX9_rowOf_8 : decode cX9_rowOf 8 = .ok (.ireturn, 1) := by decide +kernel
set_option maxRecDepth 20000 in
theorem ggX9_columnOf_X9_requirePrint : GoodIn wsX9_columnOf wsX9_requirePrint := goodIn_ca (goodIn_r _ [6, 7, 8, 9, 10, 11, 12, 13, 14, 15, 16, 17, 28, 29, 30, 31, 32, 33, 34, 35, 36, 37, 38, 39, 40, 41, 42, 43, 44, 18, 19, 20, 21, 22, 23, 24, 25, 26, 27] (by decide +kernel) (by decide +kernel)) (goodIn_sub (fun _ h => List.mem_cons_of_mem _ (List.mem_append_right _ h)) (by decide +kernel))
set_option maxRecDepth 20000 in
theorem gX9_columnOf_X9_requirePrint : GoodIn wsX9_columnOf (wsV RX9 120 RX9 yX9_requirePrint wsX9_requirePrint) := goodIn_app (goodIn_of _ (by decide +kernel)) ggX9_columnOf_X9_requirePrint
theorem dX9_columnOf_0 : decode cX9_columnOf 0 = .ok (.aload_n 0, 1) := by decide +kernel
theorem dX9_columnOf_1 : decode cX9_columnOf 1 = .ok (.iload_n 1, 1) := by decide +kernel
theorem dX9_columnOf_2 : decode cX9_columnOf 2 = .ok (.invokevirtual 120, 3) := by decide +kernel
theorem dX9_columnOf_5 : decode cX9_columnOf 5 = .ok (.getfield 176, 3) := by decide +kernel
theorem dX9_columnOf_8 : decode cX9_columnOf 8 = .ok (.ireturn, 1) := by decide +kernel
set_option maxRecDepth 20000 in
theorem ggX9_isLeft_X9_requirePrint : GoodIn wsX9_isLeft wsX9_requirePrint := goodIn_ca (goodIn_r _ [6, 7, 8, 9, 10, 11, 12, 13, 14, 15, 16, 17, 28, 29, 30, 31, 32, 33, 34, 35, 36, 37, 38, 39, 40, 41, 42, 43, 44, 18, 19, 20, 21, 22, 23, 24, 25, 26, 27] (by decide +kernel) (by decide +kernel)) (goodIn_sub (fun _ h => List.mem_cons_of_mem _ (List.mem_append_right _ h)) (by decide +kernel))
set_option maxRecDepth 20000 in
theorem gX9_isLeft_X9_requirePrint : GoodIn wsX9_isLeft (wsV RX9 120 RX9 yX9_requirePrint wsX9_requirePrint) := goodIn_app (goodIn_of _ (by decide +kernel)) ggX9_isLeft_X9_requirePrint
theorem dX9_isLeft_0 : decode cX9_isLeft 0 = .ok (.aload_n 0, 1) := by decide +kernel
theorem dX9_isLeft_1 : decode cX9_isLeft 1 = .ok (.iload_n 1, 1) := by decide +kernel
theorem dX9_isLeft_2 : decode cX9_isLeft 2 = .ok (.invokevirtual 120, 3) := by decide +kernel
theorem dX9_isLeft_5 : decode cX9_isLeft 5 = .ok (.getfield 179, 3) := by decide +kernel
theorem dX9_isLeft_8 : decode cX9_isLeft 8 = .ok (.ireturn, 1) := by decide +kernel
set_option maxRecDepth 20000 in
theorem ggX9_depthOf_X9_requirePrint : GoodIn wsX9_depthOf wsX9_requirePrint := goodIn_ca (goodIn_r _ [6, 7, 8, 9, 10, 11, 12, 13, 14, 15, 16, 17, 28, 29, 30, 31, 32, 33, 34, 35, 36, 37, 38, 39, 40, 41, 42, 43, 44, 18, 19, 20, 21, 22, 23, 24, 25, 26, 27] (by decide +kernel) (by decide +kernel)) (goodIn_sub (fun _ h => List.mem_cons_of_mem _ (List.mem_append_right _ h)) (by decide +kernel))
set_option maxRecDepth 20000 in
theorem gX9_depthOf_X9_requirePrint : GoodIn wsX9_depthOf (wsV RX9 120 RX9 yX9_requirePrint wsX9_requirePrint) := goodIn_app (goodIn_of _ (by decide +kernel)) ggX9_depthOf_X9_requirePrint
theorem dX9_depthOf_0 : decode cX9_depthOf 0 = .ok (.aload_n 0, 1) := by decide +kernel
theorem dX9_depthOf_1 : decode cX9_depthOf 1 = .ok (.iload_n 1, 1) := by decide +kernel
theorem dX9_depthOf_2 : decode cX9_depthOf 2 = .ok (.invokevirtual 120, 3) := by decide +kernel
theorem dX9_depthOf_5 : decode cX9_depthOf 5 = .ok (.getfield 182, 3) := by decide +kernel
theorem dX9_depthOf_8 : decode cX9_depthOf 8 = .ok (.ireturn, 1) := by decide +kernel
set_option maxRecDepth 20000 in
theorem ggX9_doubtsOf_X9_requirePrint : GoodIn wsX9_doubtsOf wsX9_requirePrint := goodIn_ca (goodIn_r _ [6, 7, 8, 9, 10, 11, 12, 13, 14, 15, 16, 17, 28, 29, 30, 31, 32, 33, 34, 35, 36, 37, 38, 39, 40, 41, 42, 43, 44, 18, 19, 20, 21, 22, 23, 24, 25, 26, 27] (by decide +kernel) (by decide +kernel)) (goodIn_sub (fun _ h => List.mem_cons_of_mem _ (List.mem_append_right _ h)) (by decide +kernel))
set_option maxRecDepth 20000 in
theorem gX9_doubtsOf_X9_requirePrint : GoodIn wsX9_doubtsOf (wsV RX9 120 RX9 yX9_requirePrint wsX9_requirePrint) := goodIn_app (goodIn_of _ (by decide +kernel)) ggX9_doubtsOf_X9_requirePrint
theorem dX9_doubtsOf_0 : decode cX9_doubtsOf 0 = .ok (.aload_n 0, 1) := by decide +kernel
theorem dX9_doubtsOf_1 : decode cX9_doubtsOf 1 = .ok (.iload_n 1, 1) := by decide +kernel
theorem dX9_doubtsOf_2 : decode cX9_doubtsOf 2 = .ok (.invokevirtual 120, 3) := by decide +kernel
theorem dX9_doubtsOf_5 : decode cX9_doubtsOf 5 = .ok (.getfield 185, 3) := by decide +kernel
theorem dX9_doubtsOf_8 : decode cX9_doubtsOf 8 = .ok (.ireturn, 1) := by decide +kernel
set_option maxRecDepth 20000 in
theorem ggX9_confidence_X9_requirePrint : GoodIn wsX9_confidence wsX9_requirePrint := goodIn_ca (goodIn_r _ [6, 7, 8, 9, 10, 11, 12, 13, 14, 15, 16, 17, 28, 29, 30, 31, 32, 33, 34, 35, 36, 37, 38, 39, 40, 41, 42, 43, 44, 18, 19, 20, 21, 22, 23, 24, 25, 26, 27] (by decide +kernel) (by decide +kernel)) (goodIn_sub (fun _ h => List.mem_cons_of_mem _ (List.mem_append_right _ h)) (by decide +kernel))
set_option maxRecDepth 20000 in
theorem gX9_confidence_X9_requirePrint : GoodIn wsX9_confidence (wsV RX9 120 RX9 yX9_requirePrint wsX9_requirePrint) := goodIn_app (goodIn_of _ (by decide +kernel)) ggX9_confidence_X9_requirePrint
theorem dX9_confidence_0 : decode cX9_confidence 0 = .ok (.dconst 1, 1) := by decide +kernel
theorem dX9_confidence_1 : decode cX9_confidence 1 = .ok (.dconst 1, 1) := by decide +kernel
theorem dX9_confidence_2 : decode cX9_confidence 2 = .ok (.aload_n 0, 1) := by decide +kernel
theorem dX9_confidence_3 : decode cX9_confidence 3 = .ok (.iload_n 1, 1) := by decide +kernel
theorem dX9_confidence_4 : decode cX9_confidence 4 = .ok (.invokevirtual 120, 3) := by decide +kernel
theorem dX9_confidence_7 : decode cX9_confidence 7 = .ok (.getfield 185, 3) := by decide +kernel
theorem dX9_confidence_10 : decode cX9_confidence 10 = .ok (.i2d, 1) := by decide +kernel
theorem dX9_confidence_11 : decode cX9_confidence 11 = .ok (.dadd, 1) := by decide +kernel
theorem dX9_confidence_12 : decode cX9_confidence 12 = .ok (.ddiv, 1) := by decide +kernel
theorem dX9_confidence_13 : decode cX9_confidence 13 = .ok (.dreturn, 1) := by decide +kernel
set_option maxRecDepth 20000 in
theorem ggX9_isLate_X9_requirePrint : GoodIn wsX9_isLate wsX9_requirePrint := goodIn_ca (goodIn_r _ [6, 7, 8, 9, 10, 11, 12, 13, 14, 15, 16, 17, 28, 29, 30, 31, 32, 33, 34, 35, 36, 37, 38, 39, 40, 41, 42, 43, 44, 18, 19, 20, 21, 22, 23, 24, 25, 26, 27] (by decide +kernel) (by decide +kernel)) (goodIn_sub (fun _ h => List.mem_cons_of_mem _ (List.mem_append_right _ h)) (by decide +kernel))
set_option maxRecDepth 20000 in
theorem gX9_isLate_X9_requirePrint : GoodIn wsX9_isLate (wsV RX9 120 RX9 yX9_requirePrint wsX9_requirePrint) := goodIn_app (goodIn_of _ (by decide +kernel)) ggX9_isLate_X9_requirePrint
theorem dX9_isLate_0 : decode cX9_isLate 0 = .ok (.aload_n 0, 1) := by decide +kernel
theorem dX9_isLate_1 : decode cX9_isLate 1 = .ok (.iload_n 1, 1) := by decide +kernel
theorem dX9_isLate_2 : decode cX9_isLate 2 = .ok (.invokevirtual 120, 3) := by decide +kernel
theorem dX9_isLate_5 : decode cX9_isLate 5 = .ok (.getfield 188, 3) := by decide +kernel
theorem dX9_isLate_8 : decode cX9_isLate 8 = .ok (.ireturn, 1) := by decide +kernel
set_option maxRecDepth 20000 in
theorem ggX9_previousPrint_X9_requirePrint : GoodIn wsX9_previousPrint wsX9_requirePrint := goodIn_ca (goodIn_r _ [7, 8, 9, 1, 10, 11, 12, 13, 14, 15, 16, 17, 36, 37, 38, 39, 40, 41, 42, 43, 44, 45, 56, 57, 58, 59, 60, 61, 62, 46, 47, 48, 49, 50, 51, 52, 53, 54, 55] (by decide +kernel) (by decide +kernel)) (goodIn_sub (fun _ h => List.mem_cons_of_mem _ (List.mem_append_left _ (List.mem_append_right _ h))) (by decide +kernel))
set_option maxRecDepth 20000 in
theorem gX9_previousPrint_X9_requirePrint : GoodIn wsX9_previousPrint (wsV RX9 120 RX9 yX9_requirePrint wsX9_requirePrint) := goodIn_app (goodIn_of _ (by decide +kernel)) ggX9_previousPrint_X9_requirePrint
set_option maxRecDepth 20000 in
theorem ggX9_previousPrint_X0_before : GoodIn wsX9_previousPrint wsX0_before := goodIn_r _ [21, 15, 22, 23, 24, 25, 26, 27, 28, 29, 30, 56, 57, 58, 59, 60, 61, 62, 46, 47, 48, 49, 50, 51, 52, 53, 54, 55] (by decide +kernel) (by decide +kernel)
set_option maxRecDepth 20000 in
theorem gX9_previousPrint_X0_before : GoodIn wsX9_previousPrint (wsV RX9 191 RX0 yX0_before wsX0_before) := goodIn_app (goodIn_of _ (by decide +kernel)) ggX9_previousPrint_X0_before
set_option maxRecDepth 20000 in
theorem ggX9_previousPrint_X9_requireFound : GoodIn wsX9_previousPrint wsX9_requireFound := goodIn_ca (goodIn_r _ [33, 34, 35] (by decide +kernel) (by decide +kernel)) (goodIn_sub (fun _ h => List.mem_cons_of_mem _ (List.mem_append_right _ h)) (by decide +kernel))
set_option maxRecDepth 20000 in
theorem gX9_previousPrint_X9_requireFound : GoodIn wsX9_previousPrint (va_wsS RX9 195 yX9_requireFound wsX9_requireFound) := goodIn_app (goodIn_of _ (by decide +kernel)) ggX9_previousPrint_X9_requireFound
theorem dX9_previousPrint_0 : decode cX9_previousPrint 0 = .ok (.aload_n 0, 1) := by decide +kernel
theorem dX9_previousPrint_1 : decode cX9_previousPrint 1 = .ok (.getfield 12, 3) := by decide +kernel
theorem dX9_previousPrint_4 : decode cX9_previousPrint 4 = .ok (.aload_n 0, 1) := by decide +kernel
theorem dX9_previousPrint_5 : decode cX9_previousPrint 5 = .ok (.iload_n 1, 1) := by decide +kernel
theorem dX9_previousPrint_6 : decode cX9_previousPrint 6 = .ok (.invokevirtual 120, 3) := by decide +kernel
theorem dX9_previousPrint_9 : decode cX9_previousPrint 9 = .ok (.invokevirtual 191, 3) := by decide +kernel
theorem dX9_previousPrint_12 : decode cX9_previousPrint 12 = .ok (.invokestatic 195, 3) := by decide +kernel
theorem dX9_previousPrint_15 : decode cX9_previousPrint 15 = .ok (.getfield 198, 3) := by decide +kernel
theorem dX9_previousPrint_18 : decode cX9_previousPrint 18 = .ok (.ireturn, 1) := by decide +kernel
set_option maxRecDepth 20000 in
theorem ggX9_nextPrint_X9_requirePrint : GoodIn wsX9_nextPrint wsX9_requirePrint := goodIn_ca (goodIn_r _ [7, 8, 9, 1, 10, 11, 12, 13, 14, 15, 16, 17, 36, 37, 38, 39, 40, 41, 42, 43, 44, 45, 56, 57, 58, 59, 60, 61, 62, 46, 47, 48, 49, 50, 51, 52, 53, 54, 55] (by decide +kernel) (by decide +kernel)) (goodIn_sub (fun _ h => List.mem_cons_of_mem _ (List.mem_append_left _ (List.mem_append_right _ h))) (by decide +kernel))
set_option maxRecDepth 20000 in
theorem gX9_nextPrint_X9_requirePrint : GoodIn wsX9_nextPrint (wsV RX9 120 RX9 yX9_requirePrint wsX9_requirePrint) := goodIn_app (goodIn_of _ (by decide +kernel)) ggX9_nextPrint_X9_requirePrint
set_option maxRecDepth 20000 in
theorem ggX9_nextPrint_X0_after : GoodIn wsX9_nextPrint wsX0_after := goodIn_r _ [21, 15, 22, 23, 24, 25, 26, 27, 28, 29, 30, 56, 57, 58, 59, 60, 61, 62, 46, 47, 48, 49, 50, 51, 52, 53, 54, 55] (by decide +kernel) (by decide +kernel)
set_option maxRecDepth 20000 in
theorem gX9_nextPrint_X0_after : GoodIn wsX9_nextPrint (wsV RX9 201 RX0 yX0_after wsX0_after) := goodIn_app (goodIn_of _ (by decide +kernel)) ggX9_nextPrint_X0_after
set_option maxRecDepth 20000 in
theorem ggX9_nextPrint_X9_requireFound : GoodIn wsX9_nextPrint wsX9_requireFound := goodIn_ca (goodIn_r _ [33, 34, 35] (by decide +kernel) (by decide +kernel)) (goodIn_sub (fun _ h => List.mem_cons_of_mem _ (List.mem_append_right _ h)) (by decide +kernel))
set_option maxRecDepth 20000 in
theorem gX9_nextPrint_X9_requireFound : GoodIn wsX9_nextPrint (va_wsS RX9 195 yX9_requireFound wsX9_requireFound) := goodIn_app (goodIn_of _ (by decide +kernel)) ggX9_nextPrint_X9_requireFound
theorem dX9_nextPrint_0 : decode cX9_nextPrint 0 = .ok (.aload_n 0, 1) := by decide +kernel
theorem dX9_nextPrint_1 : decode cX9_nextPrint 1 = .ok (.getfield 12, 3) := by decide +kernel
theorem dX9_nextPrint_4 : decode cX9_nextPrint 4 = .ok (.aload_n 0, 1) := by decide +kernel
theorem dX9_nextPrint_5 : decode cX9_nextPrint 5 = .ok (.iload_n 1, 1) := by decide +kernel
theorem dX9_nextPrint_6 : decode cX9_nextPrint 6 = .ok (.invokevirtual 120, 3) := by decide +kernel
theorem dX9_nextPrint_9 : decode cX9_nextPrint 9 = .ok (.invokevirtual 201, 3) := by decide +kernel
theorem dX9_nextPrint_12 : decode cX9_nextPrint 12 = .ok (.invokestatic 195, 3) := by decide +kernel
theorem dX9_nextPrint_15 : decode cX9_nextPrint 15 = .ok (.getfield 198, 3) := by decide +kernel
theorem dX9_nextPrint_18 : decode cX9_nextPrint 18 = .ok (.ireturn, 1) := by decide +kernel
set_option maxRecDepth 20000 in
theorem ggX9_strideOf_X9_requirePrint : GoodIn wsX9_strideOf wsX9_requirePrint := goodIn_ca (goodIn_r _ [8, 9, 10, 1, 11, 12, 13, 14, 15, 16, 17, 18, 47, 48, 49, 50, 51, 52, 53, 54, 55, 56, 67, 68, 69, 70, 71, 72, 73, 57, 58, 59, 60, 61, 62, 63, 64, 65, 66] (by decide +kernel) (by decide +kernel)) (goodIn_sub (fun _ h => List.mem_cons_of_mem _ (List.mem_append_left _ (List.mem_append_right _ h))) (by decide +kernel))
set_option maxRecDepth 20000 in
theorem gX9_strideOf_X9_requirePrint : GoodIn wsX9_strideOf (wsV RX9 120 RX9 yX9_requirePrint wsX9_requirePrint) := goodIn_app (goodIn_of _ (by decide +kernel)) ggX9_strideOf_X9_requirePrint
set_option maxRecDepth 20000 in
theorem ggX9_strideOf_X0_before : GoodIn wsX9_strideOf wsX0_before := goodIn_r _ [22, 16, 23, 24, 25, 26, 27, 28, 29, 30, 31, 67, 68, 69, 70, 71, 72, 73, 57, 58, 59, 60, 61, 62, 63, 64, 65, 66] (by decide +kernel) (by decide +kernel)
set_option maxRecDepth 20000 in
theorem gX9_strideOf_X0_before : GoodIn wsX9_strideOf (wsV RX9 191 RX0 yX0_before wsX0_before) := goodIn_app (goodIn_of _ (by decide +kernel)) ggX9_strideOf_X0_before
set_option maxRecDepth 20000 in
theorem ggX9_strideOf_X9_requireFound : GoodIn wsX9_strideOf wsX9_requireFound := goodIn_ca (goodIn_r _ [34, 35, 36] (by decide +kernel) (by decide +kernel)) (goodIn_sub (fun _ h => List.mem_cons_of_mem _ (List.mem_append_right _ h)) (by decide +kernel))
set_option maxRecDepth 20000 in
theorem gX9_strideOf_X9_requireFound : GoodIn wsX9_strideOf (va_wsS RX9 195 yX9_requireFound wsX9_requireFound) := goodIn_app (goodIn_of _ (by decide +kernel)) ggX9_strideOf_X9_requireFound
set_option maxRecDepth 20000 in
theorem ggX9_strideOf_X3_distanceTo : GoodIn wsX9_strideOf wsX3_distanceTo := goodIn_r _ [40, 41, 42, 43, 44, 45, 46, 57, 58, 59, 60, 61, 62, 63, 64, 65, 66] (by decide +kernel) (by decide +kernel)
set_option maxRecDepth 20000 in
theorem gX9_strideOf_X3_distanceTo : GoodIn wsX9_strideOf (wsV RX9 204 RX3 yX3_distanceTo wsX3_distanceTo) := goodIn_app (goodIn_of _ (by decide +kernel)) ggX9_strideOf_X3_distanceTo
theorem dX9_strideOf_0 : decode cX9_strideOf 0 = .ok (.aload_n 0, 1) := by decide +kernel
theorem dX9_strideOf_1 : decode cX9_strideOf 1 = .ok (.iload_n 1, 1) := by decide +kernel
theorem dX9_strideOf_2 : decode cX9_strideOf 2 = .ok (.invokevirtual 120, 3) := by decide +kernel
theorem dX9_strideOf_5 : decode cX9_strideOf 5 = .ok (.astore_n 2, 1) := by decide +kernel
theorem dX9_strideOf_6 : decode cX9_strideOf 6 = .ok (.aload_n 0, 1) := by decide +kernel
theorem dX9_strideOf_7 : decode cX9_strideOf 7 = .ok (.getfield 12, 3) := by decide +kernel
theorem dX9_strideOf_10 : decode cX9_strideOf 10 = .ok (.aload_n 2, 1) := by decide +kernel
theorem dX9_strideOf_11 : decode cX9_strideOf 11 = .ok (.invokevirtual 191, 3) := by decide +kernel
theorem dX9_strideOf_14 : decode cX9_strideOf 14 = .ok (.invokestatic 195, 3) := by decide +kernel
theorem dX9_strideOf_17 : decode cX9_strideOf 17 = .ok (.astore_n 3, 1) := by decide +kernel
theorem dX9_strideOf_18 : decode cX9_strideOf 18 = .ok (.aload_n 2, 1) := by decide +kernel
theorem dX9_strideOf_19 : decode cX9_strideOf 19 = .ok (.aload_n 3, 1) := by decide +kernel
theorem dX9_strideOf_20 : decode cX9_strideOf 20 = .ok (.getfield 173, 3) := by decide +kernel
theorem dX9_strideOf_23 : decode cX9_strideOf 23 = .ok (.aload_n 3, 1) := by decide +kernel
theorem dX9_strideOf_24 : decode cX9_strideOf 24 = .ok (.getfield 176, 3) := by decide +kernel
theorem dX9_strideOf_27 : decode cX9_strideOf 27 = .ok (.invokevirtual 204, 3) := by decide +kernel
theorem dX9_strideOf_30 : decode cX9_strideOf 30 = .ok (.ireturn, 1) := by decide +kernel
set_option maxRecDepth 20000 in
theorem ggX9_hasStrideError_X9_requirePrint : GoodIn wsX9_hasStrideError wsX9_requirePrint := goodIn_ca (goodIn_r _ [6, 7, 8, 9, 10, 11, 12, 13, 14, 15, 16, 17, 62, 63, 64, 65, 66, 67, 68, 69, 70, 71, 72, 73, 74, 75, 76, 77, 78, 79, 80, 81, 82, 83, 84, 85, 86, 87, 88] (by decide +kernel) (by decide +kernel)) (goodIn_sub (fun _ h => List.mem_cons_of_mem _ (List.mem_append_right _ h)) (by decide +kernel))
set_option maxRecDepth 20000 in
theorem gX9_hasStrideError_X9_requirePrint : GoodIn wsX9_hasStrideError (wsV RX9 120 RX9 yX9_requirePrint wsX9_requirePrint) := goodIn_app (goodIn_of _ (by decide +kernel)) ggX9_hasStrideError_X9_requirePrint
set_option maxRecDepth 20000 in
theorem ggX9_hasStrideError_X4_strideIsWrong : GoodIn wsX9_hasStrideError wsX4_strideIsWrong := goodIn_r _ [22, 23, 24, 25, 26, 13, 27, 15, 28, 29, 30, 31, 32, 33, 34, 35, 36, 37, 38, 39, 21, 40, 41, 42, 43, 44, 45, 46, 47, 48, 49, 50, 51, 52, 53, 54, 55, 56, 57, 58, 59, 60, 61, 89, 72, 73, 74, 75, 76, 77, 78, 79, 80, 81, 82, 83, 84, 85, 86, 87, 88, 90, 91, 92] (by decide +kernel) (by decide +kernel)
set_option maxRecDepth 20000 in
theorem gX9_hasStrideError_X4_strideIsWrong : GoodIn wsX9_hasStrideError (wsV RX9 208 RX4 yX4_strideIsWrong wsX4_strideIsWrong) := goodIn_app (goodIn_of _ (by decide +kernel)) ggX9_hasStrideError_X4_strideIsWrong
theorem dX9_hasStrideError_0 : decode cX9_hasStrideError 0 = .ok (.aload_n 0, 1) := by decide +kernel
theorem dX9_hasStrideError_1 : decode cX9_hasStrideError 1 = .ok (.getfield 21, 3) := by decide +kernel
theorem dX9_hasStrideError_4 : decode cX9_hasStrideError 4 = .ok (.aload_n 0, 1) := by decide +kernel
theorem dX9_hasStrideError_5 : decode cX9_hasStrideError 5 = .ok (.iload_n 1, 1) := by decide +kernel
theorem dX9_hasStrideError_6 : decode cX9_hasStrideError 6 = .ok (.invokevirtual 120, 3) := by decide +kernel
theorem dX9_hasStrideError_9 : decode cX9_hasStrideError 9 = .ok (.invokevirtual 208, 3) := by decide +kernel
theorem dX9_hasStrideError_12 : decode cX9_hasStrideError 12 = .ok (.ireturn, 1) := by decide +kernel
set_option maxRecDepth 20000 in
theorem ggX9_hasFootError_X9_requirePrint : GoodIn wsX9_hasFootError wsX9_requirePrint := goodIn_ca (goodIn_r _ [6, 7, 8, 9, 10, 11, 12, 13, 14, 15, 16, 17, 42, 43, 44, 45, 46, 47, 48, 49, 50, 51, 52, 53, 54, 55, 56, 57, 58, 59, 60, 61, 62, 63, 64, 65, 66, 67, 68] (by decide +kernel) (by decide +kernel)) (goodIn_sub (fun _ h => List.mem_cons_of_mem _ (List.mem_append_right _ h)) (by decide +kernel))
set_option maxRecDepth 20000 in
theorem gX9_hasFootError_X9_requirePrint : GoodIn wsX9_hasFootError (wsV RX9 120 RX9 yX9_requirePrint wsX9_requirePrint) := goodIn_app (goodIn_of _ (by decide +kernel)) ggX9_hasFootError_X9_requirePrint
set_option maxRecDepth 20000 in
theorem ggX9_hasFootError_X4_footIsWrong : GoodIn wsX9_hasFootError wsX4_footIsWrong := goodIn_r _ [22, 23, 24, 25, 26, 13, 27, 15, 28, 29, 30, 31, 32, 33, 34, 35, 36, 37, 38, 39, 21, 40, 41, 69, 52, 53, 54, 55, 56, 57, 58, 59, 60, 61, 62, 63, 64, 65, 66, 67, 68] (by decide +kernel) (by decide +kernel)
set_option maxRecDepth 20000 in
theorem gX9_hasFootError_X4_footIsWrong : GoodIn wsX9_hasFootError (wsV RX9 212 RX4 yX4_footIsWrong wsX4_footIsWrong) := goodIn_app (goodIn_of _ (by decide +kernel)) ggX9_hasFootError_X4_footIsWrong
theorem dX9_hasFootError_0 : decode cX9_hasFootError 0 = .ok (.aload_n 0, 1) := by decide +kernel
theorem dX9_hasFootError_1 : decode cX9_hasFootError 1 = .ok (.getfield 21, 3) := by decide +kernel
theorem dX9_hasFootError_4 : decode cX9_hasFootError 4 = .ok (.aload_n 0, 1) := by decide +kernel
theorem dX9_hasFootError_5 : decode cX9_hasFootError 5 = .ok (.iload_n 1, 1) := by decide +kernel
theorem dX9_hasFootError_6 : decode cX9_hasFootError 6 = .ok (.invokevirtual 120, 3) := by decide +kernel
theorem dX9_hasFootError_9 : decode cX9_hasFootError 9 = .ok (.invokevirtual 212, 3) := by decide +kernel
theorem dX9_hasFootError_12 : decode cX9_hasFootError 12 = .ok (.ireturn, 1) := by decide +kernel
set_option maxRecDepth 20000 in
theorem ggX9_hasDepthError_X9_requirePrint : GoodIn wsX9_hasDepthError wsX9_requirePrint := goodIn_ca (goodIn_r _ [6, 7, 8, 9, 10, 11, 12, 13, 14, 15, 16, 17, 46, 47, 48, 49, 50, 51, 52, 53, 54, 55, 56, 57, 58, 59, 60, 61, 62, 63, 64, 65, 66, 67, 68, 69, 70, 71, 72] (by decide +kernel) (by decide +kernel)) (goodIn_sub (fun _ h => List.mem_cons_of_mem _ (List.mem_append_right _ h)) (by decide +kernel))
set_option maxRecDepth 20000 in
theorem gX9_hasDepthError_X9_requirePrint : GoodIn wsX9_hasDepthError (wsV RX9 120 RX9 yX9_requirePrint wsX9_requirePrint) := goodIn_app (goodIn_of _ (by decide +kernel)) ggX9_hasDepthError_X9_requirePrint
set_option maxRecDepth 20000 in
theorem ggX9_hasDepthError_X4_depthIsWrong : GoodIn wsX9_hasDepthError wsX4_depthIsWrong := goodIn_r _ [22, 23, 24, 25, 26, 13, 27, 15, 28, 29, 30, 31, 32, 33, 34, 35, 36, 37, 38, 39, 21, 40, 41, 42, 43, 44, 45, 73, 56, 57, 58, 59, 60, 61, 62, 63, 64, 65, 66, 67, 68, 69, 70, 71, 72] (by decide +kernel) (by decide +kernel)
set_option maxRecDepth 20000 in
theorem gX9_hasDepthError_X4_depthIsWrong : GoodIn wsX9_hasDepthError (wsV RX9 215 RX4 yX4_depthIsWrong wsX4_depthIsWrong) := goodIn_app (goodIn_of _ (by decide +kernel)) ggX9_hasDepthError_X4_depthIsWrong
theorem dX9_hasDepthError_0 : decode cX9_hasDepthError 0 = .ok (.aload_n 0, 1) := by decide +kernel
theorem dX9_hasDepthError_1 : decode cX9_hasDepthError 1 = .ok (.getfield 21, 3) := by decide +kernel
theorem dX9_hasDepthError_4 : decode cX9_hasDepthError 4 = .ok (.aload_n 0, 1) := by decide +kernel
theorem dX9_hasDepthError_5 : decode cX9_hasDepthError 5 = .ok (.iload_n 1, 1) := by decide +kernel
theorem dX9_hasDepthError_6 : decode cX9_hasDepthError 6 = .ok (.invokevirtual 120, 3) := by decide +kernel
theorem dX9_hasDepthError_9 : decode cX9_hasDepthError 9 = .ok (.invokevirtual 215, 3) := by decide +kernel
theorem dX9_hasDepthError_12 : decode cX9_hasDepthError 12 = .ok (.ireturn, 1) := by decide +kernel
set_option maxRecDepth 20000 in
theorem ggX9_maxStride_X9_requireTrack : GoodIn wsX9_maxStride wsX9_requireTrack := goodIn_ca (goodIn_r _ [6, 7, 8, 9, 10, 11, 12, 13, 14, 15, 16, 17, 21, 22, 23, 24, 25, 26, 27, 28, 29, 30, 31, 32, 33, 34, 35, 36, 37, 18, 19, 20] (by decide +kernel) (by decide +kernel)) (goodIn_sub (fun _ h => List.mem_cons_of_mem _ (List.mem_append_right _ h)) (by decide +kernel))
set_option maxRecDepth 20000 in
theorem gX9_maxStride_X9_requireTrack : GoodIn wsX9_maxStride (wsV RX9 92 RX9 yX9_requireTrack wsX9_requireTrack) := goodIn_app (goodIn_of _ (by decide +kernel)) ggX9_maxStride_X9_requireTrack
theorem dX9_maxStride_0 : decode cX9_maxStride 0 = .ok (.aload_n 0, 1) := by decide +kernel
theorem dX9_maxStride_1 : decode cX9_maxStride 1 = .ok (.iload_n 1, 1) := by decide +kernel
theorem dX9_maxStride_2 : decode cX9_maxStride 2 = .ok (.invokevirtual 92, 3) := by decide +kernel
theorem dX9_maxStride_5 : decode cX9_maxStride 5 = .ok (.getfield 218, 3) := by decide +kernel
theorem dX9_maxStride_8 : decode cX9_maxStride 8 = .ok (.ireturn, 1) := by decide +kernel
set_option maxRecDepth 20000 in
theorem ggX9_printCount_X9_requireTrack : GoodIn wsX9_printCount wsX9_requireTrack := goodIn_ca (goodIn_r _ [6, 7, 8, 1, 9, 10, 11, 12, 13, 14, 15, 16, 34, 35, 36, 37, 38, 39, 40, 41, 42, 43, 44, 45, 46, 47, 48, 49, 50, 51, 52, 53] (by decide +kernel) (by decide +kernel)) (goodIn_sub (fun _ h => List.mem_cons_of_mem _ (List.mem_append_right _ h)) (by decide +kernel))
set_option maxRecDepth 20000 in
theorem gX9_printCount_X9_requireTrack : GoodIn wsX9_printCount (wsV RX9 92 RX9 yX9_requireTrack wsX9_requireTrack) := goodIn_app (goodIn_of _ (by decide +kernel)) ggX9_printCount_X9_requireTrack
set_option maxRecDepth 20000 in
theorem ggX9_printCount_X0_countPrints : GoodIn wsX9_printCount wsX0_countPrints := goodIn_r _ [20, 16, 21, 22, 23, 12, 24, 25, 26, 27, 28, 29, 30, 31, 32, 33, 51, 52, 53, 44, 45, 46, 47, 48, 49, 50, 54, 55, 56, 57, 58, 59, 60, 61, 62, 63] (by decide +kernel) (by decide +kernel)
set_option maxRecDepth 20000 in
theorem gX9_printCount_X0_countPrints : GoodIn wsX9_printCount (wsV RX9 223 RX0 yX0_countPrints wsX0_countPrints) := goodIn_app (goodIn_of _ (by decide +kernel)) ggX9_printCount_X0_countPrints
theorem dX9_printCount_0 : decode cX9_printCount 0 = .ok (.aload_n 0, 1) := by decide +kernel
theorem dX9_printCount_1 : decode cX9_printCount 1 = .ok (.getfield 12, 3) := by decide +kernel
theorem dX9_printCount_4 : decode cX9_printCount 4 = .ok (.aload_n 0, 1) := by decide +kernel
theorem dX9_printCount_5 : decode cX9_printCount 5 = .ok (.iload_n 1, 1) := by decide +kernel
theorem dX9_printCount_6 : decode cX9_printCount 6 = .ok (.invokevirtual 92, 3) := by decide +kernel
theorem dX9_printCount_9 : decode cX9_printCount 9 = .ok (.invokevirtual 223, 3) := by decide +kernel
theorem dX9_printCount_12 : decode cX9_printCount 12 = .ok (.ireturn, 1) := by decide +kernel
set_option maxRecDepth 20000 in
theorem ggX9_printAt_X9_requireTrack : GoodIn wsX9_printAt wsX9_requireTrack := goodIn_ca (goodIn_r _ [7, 8, 9, 1, 10, 11, 12, 13, 14, 15, 16, 17, 40, 41, 42, 43, 44, 45, 46, 47, 48, 49, 60, 61, 62, 63, 64, 65, 66, 67, 68, 69] (by decide +kernel) (by decide +kernel)) (goodIn_sub (fun _ h => List.mem_cons_of_mem _ (List.mem_append_left _ (List.mem_append_right _ h))) (by decide +kernel))
set_option maxRecDepth 20000 in
theorem gX9_printAt_X9_requireTrack : GoodIn wsX9_printAt (wsV RX9 92 RX9 yX9_requireTrack wsX9_requireTrack) := goodIn_app (goodIn_of _ (by decide +kernel)) ggX9_printAt_X9_requireTrack
set_option maxRecDepth 20000 in
theorem ggX9_printAt_X0_inPlace : GoodIn wsX9_printAt wsX0_inPlace := goodIn_r _ [21, 22, 17, 23, 24, 25, 26, 27, 28, 29, 30, 31, 32, 33, 13, 34, 60, 61, 62, 63, 64, 65, 66, 67, 68, 69, 50, 51, 52, 53, 54, 55, 56, 57, 58, 59] (by decide +kernel) (by decide +kernel)
set_option maxRecDepth 20000 in
theorem gX9_printAt_X0_inPlace : GoodIn wsX9_printAt (wsV RX9 226 RX0 yX0_inPlace wsX0_inPlace) := goodIn_app (goodIn_of _ (by decide +kernel)) ggX9_printAt_X0_inPlace
set_option maxRecDepth 20000 in
theorem ggX9_printAt_X9_requireFound : GoodIn wsX9_printAt wsX9_requireFound := goodIn_ca (goodIn_r _ [37, 38, 39] (by decide +kernel) (by decide +kernel)) (goodIn_sub (fun _ h => List.mem_cons_of_mem _ (List.mem_append_right _ h)) (by decide +kernel))
set_option maxRecDepth 20000 in
theorem gX9_printAt_X9_requireFound : GoodIn wsX9_printAt (va_wsS RX9 195 yX9_requireFound wsX9_requireFound) := goodIn_app (goodIn_of _ (by decide +kernel)) ggX9_printAt_X9_requireFound
theorem dX9_printAt_0 : decode cX9_printAt 0 = .ok (.aload_n 0, 1) := by decide +kernel
theorem dX9_printAt_1 : decode cX9_printAt 1 = .ok (.getfield 12, 3) := by decide +kernel
theorem dX9_printAt_4 : decode cX9_printAt 4 = .ok (.aload_n 0, 1) := by decide +kernel
theorem dX9_printAt_5 : decode cX9_printAt 5 = .ok (.iload_n 1, 1) := by decide +kernel
theorem dX9_printAt_6 : decode cX9_printAt 6 = .ok (.invokevirtual 92, 3) := by decide +kernel
theorem dX9_printAt_9 : decode cX9_printAt 9 = .ok (.iload_n 2, 1) := by decide +kernel
theorem dX9_printAt_10 : decode cX9_printAt 10 = .ok (.invokevirtual 226, 3) := by decide +kernel
theorem dX9_printAt_13 : decode cX9_printAt 13 = .ok (.invokestatic 195, 3) := by decide +kernel
theorem dX9_printAt_16 : decode cX9_printAt 16 = .ok (.getfield 198, 3) := by decide +kernel
theorem dX9_printAt_19 : decode cX9_printAt 19 = .ok (.ireturn, 1) := by decide +kernel
set_option maxRecDepth 20000 in
theorem ggX9_trackLength_X9_requireTrack : GoodIn wsX9_trackLength wsX9_requireTrack := goodIn_ca (goodIn_r _ [6, 7, 8, 9, 10, 11, 12, 13, 14, 15, 16, 17, 53, 54, 55, 56, 57, 58, 59, 60, 61, 62, 63, 64, 65, 66, 67, 68, 69, 70, 71, 72] (by decide +kernel) (by decide +kernel)) (goodIn_sub (fun _ h => List.mem_cons_of_mem _ (List.mem_append_right _ h)) (by decide +kernel))
set_option maxRecDepth 20000 in
theorem gX9_trackLength_X9_requireTrack : GoodIn wsX9_trackLength (wsV RX9 92 RX9 yX9_requireTrack wsX9_requireTrack) := goodIn_app (goodIn_of _ (by decide +kernel)) ggX9_trackLength_X9_requireTrack
set_option maxRecDepth 20000 in
theorem ggX9_trackLength_X4_lengthByPrints : GoodIn wsX9_trackLength wsX4_lengthByPrints := goodIn_r _ [22, 23, 24, 25, 26, 27, 28, 29, 30, 31, 32, 33, 34, 35, 36, 37, 13, 38, 39, 40, 41, 42, 43, 44, 45, 46, 47, 48, 49, 50, 51, 52, 73, 63, 64, 65, 66, 67, 68, 69, 70, 71, 72, 74, 75, 76, 77, 78, 79, 80, 81, 82, 83] (by decide +kernel) (by decide +kernel)
set_option maxRecDepth 20000 in
theorem gX9_trackLength_X4_lengthByPrints : GoodIn wsX9_trackLength (wsV RX9 230 RX4 yX4_lengthByPrints wsX4_lengthByPrints) := goodIn_app (goodIn_of _ (by decide +kernel)) ggX9_trackLength_X4_lengthByPrints
theorem dX9_trackLength_0 : decode cX9_trackLength 0 = .ok (.aload_n 0, 1) := by decide +kernel
theorem dX9_trackLength_1 : decode cX9_trackLength 1 = .ok (.getfield 21, 3) := by decide +kernel
theorem dX9_trackLength_4 : decode cX9_trackLength 4 = .ok (.aload_n 0, 1) := by decide +kernel
theorem dX9_trackLength_5 : decode cX9_trackLength 5 = .ok (.iload_n 1, 1) := by decide +kernel
theorem dX9_trackLength_6 : decode cX9_trackLength 6 = .ok (.invokevirtual 92, 3) := by decide +kernel
theorem dX9_trackLength_9 : decode cX9_trackLength 9 = .ok (.invokevirtual 230, 3) := by decide +kernel
theorem dX9_trackLength_12 : decode cX9_trackLength 12 = .ok (.ireturn, 1) := by decide +kernel
set_option maxRecDepth 20000 in
theorem ggX9_trackLengthAgain_X9_requireTrack : GoodIn wsX9_trackLengthAgain wsX9_requireTrack := goodIn_ca (goodIn_r _ [6, 7, 8, 9, 10, 11, 12, 13, 14, 15, 16, 17, 47, 48, 49, 50, 51, 52, 53, 54, 55, 56, 57, 58, 59, 60, 61, 62, 63, 64, 65, 66] (by decide +kernel) (by decide +kernel)) (goodIn_sub (fun _ h => List.mem_cons_of_mem _ (List.mem_append_right _ h)) (by decide +kernel))
set_option maxRecDepth 20000 in
theorem gX9_trackLengthAgain_X9_requireTrack : GoodIn wsX9_trackLengthAgain (wsV RX9 92 RX9 yX9_requireTrack wsX9_requireTrack) := goodIn_app (goodIn_of _ (by decide +kernel)) ggX9_trackLengthAgain_X9_requireTrack
set_option maxRecDepth 20000 in
theorem ggX9_trackLengthAgain_X4_lengthByDirections : GoodIn wsX9_trackLengthAgain wsX4_lengthByDirections := goodIn_r _ [22, 23, 24, 25, 26, 27, 28, 29, 30, 31, 32, 33, 34, 35, 36, 37, 38, 39, 40, 41, 13, 42, 43, 44, 45, 46, 67, 57, 58, 59, 60, 61, 62, 63, 64, 65, 66, 68, 69, 70, 71, 72, 73, 74, 75, 76, 77] (by decide +kernel) (by decide +kernel)
set_option maxRecDepth 20000 in
theorem gX9_trackLengthAgain_X4_lengthByDirections : GoodIn wsX9_trackLengthAgain (wsV RX9 233 RX4 yX4_lengthByDirections wsX4_lengthByDirections) := goodIn_app (goodIn_of _ (by decide +kernel)) ggX9_trackLengthAgain_X4_lengthByDirections
theorem dX9_trackLengthAgain_0 : decode cX9_trackLengthAgain 0 = .ok (.aload_n 0, 1) := by decide +kernel
theorem dX9_trackLengthAgain_1 : decode cX9_trackLengthAgain 1 = .ok (.getfield 21, 3) := by decide +kernel
theorem dX9_trackLengthAgain_4 : decode cX9_trackLengthAgain 4 = .ok (.aload_n 0, 1) := by decide +kernel
theorem dX9_trackLengthAgain_5 : decode cX9_trackLengthAgain 5 = .ok (.iload_n 1, 1) := by decide +kernel
theorem dX9_trackLengthAgain_6 : decode cX9_trackLengthAgain 6 = .ok (.invokevirtual 92, 3) := by decide +kernel
theorem dX9_trackLengthAgain_9 : decode cX9_trackLengthAgain 9 = .ok (.invokevirtual 233, 3) := by decide +kernel
theorem dX9_trackLengthAgain_12 : decode cX9_trackLengthAgain 12 = .ok (.ireturn, 1) := by decide +kernel
set_option maxRecDepth 20000 in
theorem ggX9_errorCount_X9_requireTrack : GoodIn wsX9_errorCount wsX9_requireTrack := goodIn_ca (goodIn_r _ [7, 8, 9, 10, 11, 12, 13, 14, 15, 16, 17, 18, 71, 72, 73, 74, 75, 76, 77, 78, 79, 80, 84, 85, 86, 87, 88, 89, 90, 81, 82, 83] (by decide +kernel) (by decide +kernel)) (goodIn_sub (fun _ h => List.mem_cons_of_mem _ (List.mem_append_right _ h)) (by decide +kernel))
set_option maxRecDepth 20000 in
theorem gX9_errorCount_X9_requireTrack : GoodIn wsX9_errorCount (wsV RX9 92 RX9 yX9_requireTrack wsX9_requireTrack) := goodIn_app (goodIn_of _ (by decide +kernel)) ggX9_errorCount_X9_requireTrack
set_option maxRecDepth 20000 in
theorem ggX9_errorCount_X4_errorsByPrints : GoodIn wsX9_errorCount wsX4_errorsByPrints := goodIn_r _ [23, 24, 25, 26, 27, 28, 29, 30, 31, 32, 33, 34, 35, 14, 36, 37, 38, 39, 40, 41, 42, 43, 22, 44, 45, 46, 47, 48, 49, 12, 13, 15, 16, 17, 18, 50, 51, 52, 53, 54, 55, 56, 57, 58, 59, 60, 61, 62, 63, 64, 65, 66, 67, 68, 69, 70, 91, 84, 85, 86, 87, 88, 89, 90, 92, 93, 94, 95, 96, 97, 98, 99, 100, 101, 81, 82, 83] (by decide +kernel) (by decide +kernel)
set_option maxRecDepth 20000 in
theorem gX9_errorCount_X4_errorsByPrints : GoodIn wsX9_errorCount (wsV RX9 237 RX4 yX4_errorsByPrints wsX4_errorsByPrints) := goodIn_app (goodIn_of _ (by decide +kernel)) ggX9_errorCount_X4_errorsByPrints
theorem dX9_errorCount_0 : decode cX9_errorCount 0 = .ok (.aload_n 0, 1) := by decide +kernel
theorem dX9_errorCount_1 : decode cX9_errorCount 1 = .ok (.getfield 21, 3) := by decide +kernel
theorem dX9_errorCount_4 : decode cX9_errorCount 4 = .ok (.aload_n 0, 1) := by decide +kernel
theorem dX9_errorCount_5 : decode cX9_errorCount 5 = .ok (.iload_n 1, 1) := by decide +kernel
theorem dX9_errorCount_6 : decode cX9_errorCount 6 = .ok (.invokevirtual 92, 3) := by decide +kernel
theorem dX9_errorCount_9 : decode cX9_errorCount 9 = .ok (.getfield 236, 3) := by decide +kernel
theorem dX9_errorCount_12 : decode cX9_errorCount 12 = .ok (.invokevirtual 237, 3) := by decide +kernel
theorem dX9_errorCount_15 : decode cX9_errorCount 15 = .ok (.ireturn, 1) := by decide +kernel
set_option maxRecDepth 20000 in
theorem ggX9_errorCountAgain_X9_requireTrack : GoodIn wsX9_errorCountAgain wsX9_requireTrack := goodIn_ca (goodIn_r _ [7, 8, 9, 10, 11, 12, 13, 14, 15, 16, 17, 18, 71, 72, 73, 74, 75, 76, 77, 78, 79, 80, 84, 85, 86, 87, 88, 89, 90, 81, 82, 83] (by decide +kernel) (by decide +kernel)) (goodIn_sub (fun _ h => List.mem_cons_of_mem _ (List.mem_append_right _ h)) (by decide +kernel))
set_option maxRecDepth 20000 in
theorem gX9_errorCountAgain_X9_requireTrack : GoodIn wsX9_errorCountAgain (wsV RX9 92 RX9 yX9_requireTrack wsX9_requireTrack) := goodIn_app (goodIn_of _ (by decide +kernel)) ggX9_errorCountAgain_X9_requireTrack
set_option maxRecDepth 20000 in
theorem ggX9_errorCountAgain_X4_errorsByKinds : GoodIn wsX9_errorCountAgain wsX4_errorsByKinds := goodIn_r _ [23, 24, 25, 26, 27, 28, 29, 30, 31, 32, 33, 34, 35, 14, 36, 37, 38, 39, 40, 41, 42, 43, 22, 44, 45, 46, 47, 48, 49, 12, 13, 15, 16, 17, 18, 50, 51, 52, 53, 54, 55, 56, 57, 58, 59, 60, 61, 62, 63, 64, 65, 66, 67, 68, 69, 70, 91, 84, 85, 86, 87, 88, 89, 90, 92, 93, 94, 95, 96, 97, 98, 99, 100, 101, 81, 82, 83] (by decide +kernel) (by decide +kernel)
set_option maxRecDepth 20000 in
theorem gX9_errorCountAgain_X4_errorsByKinds : GoodIn wsX9_errorCountAgain (wsV RX9 240 RX4 yX4_errorsByKinds wsX4_errorsByKinds) := goodIn_app (goodIn_of _ (by decide +kernel)) ggX9_errorCountAgain_X4_errorsByKinds
theorem dX9_errorCountAgain_0 : decode cX9_errorCountAgain 0 = .ok (.aload_n 0, 1) := by decide +kernel
theorem dX9_errorCountAgain_1 : decode cX9_errorCountAgain 1 = .ok (.getfield 21, 3) := by decide +kernel
theorem dX9_errorCountAgain_4 : decode cX9_errorCountAgain 4 = .ok (.aload_n 0, 1) := by decide +kernel
theorem dX9_errorCountAgain_5 : decode cX9_errorCountAgain 5 = .ok (.iload_n 1, 1) := by decide +kernel
theorem dX9_errorCountAgain_6 : decode cX9_errorCountAgain 6 = .ok (.invokevirtual 92, 3) := by decide +kernel
theorem dX9_errorCountAgain_9 : decode cX9_errorCountAgain 9 = .ok (.getfield 236, 3) := by decide +kernel
theorem dX9_errorCountAgain_12 : decode cX9_errorCountAgain 12 = .ok (.invokevirtual 240, 3) := by decide +kernel
theorem dX9_errorCountAgain_15 : decode cX9_errorCountAgain 15 = .ok (.ireturn, 1) := by decide +kernel
set_option maxRecDepth 20000 in
theorem ggX9_duration_X9_requireTrack : GoodIn wsX9_duration wsX9_requireTrack := goodIn_ca (goodIn_r _ [7, 8, 9, 1, 10, 11, 12, 13, 14, 15, 16, 17, 44, 45, 46, 47, 48, 49, 50, 51, 52, 53, 64, 65, 66, 67, 68, 69, 70, 71, 72, 73] (by decide +kernel) (by decide +kernel)) (goodIn_sub (fun _ h => List.mem_cons_of_mem _ (List.mem_append_left _ (List.mem_append_right _ h))) (by decide +kernel))
set_option maxRecDepth 20000 in
theorem gX9_duration_X9_requireTrack : GoodIn wsX9_duration (wsV RX9 92 RX9 yX9_requireTrack wsX9_requireTrack) := goodIn_app (goodIn_of _ (by decide +kernel)) ggX9_duration_X9_requireTrack
set_option maxRecDepth 20000 in
theorem ggX9_duration_X0_inPlace : GoodIn wsX9_duration wsX0_inPlace := goodIn_r _ [21, 22, 17, 23, 24, 25, 26, 27, 28, 29, 30, 31, 32, 33, 13, 34, 64, 65, 66, 67, 68, 69, 70, 71, 72, 73, 54, 55, 56, 57, 58, 59, 60, 61, 62, 63] (by decide +kernel) (by decide +kernel)
set_option maxRecDepth 20000 in
theorem gX9_duration_X0_inPlace : GoodIn wsX9_duration (wsV RX9 226 RX0 yX0_inPlace wsX0_inPlace) := goodIn_app (goodIn_of _ (by decide +kernel)) ggX9_duration_X0_inPlace
set_option maxRecDepth 20000 in
theorem ggX9_duration_X9_requireFound : GoodIn wsX9_duration wsX9_requireFound := goodIn_ca (goodIn_r _ [37, 38, 39] (by decide +kernel) (by decide +kernel)) (goodIn_sub (fun _ h => List.mem_cons_of_mem _ (List.mem_append_right _ h)) (by decide +kernel))
set_option maxRecDepth 20000 in
theorem gX9_duration_X9_requireFound : GoodIn wsX9_duration (va_wsS RX9 195 yX9_requireFound wsX9_requireFound) := goodIn_app (goodIn_of _ (by decide +kernel)) ggX9_duration_X9_requireFound
set_option maxRecDepth 20000 in
theorem ggX9_duration_X0_countPrints : GoodIn wsX9_duration wsX0_countPrints := goodIn_r _ [43, 17, 31, 32, 33, 13, 34, 22, 23, 24, 25, 26, 27, 28, 29, 30, 71, 72, 73, 64, 65, 66, 67, 68, 69, 70, 54, 55, 56, 57, 58, 59, 60, 61, 62, 63] (by decide +kernel) (by decide +kernel)
set_option maxRecDepth 20000 in
theorem gX9_duration_X0_countPrints : GoodIn wsX9_duration (wsV RX9 223 RX0 yX0_countPrints wsX0_countPrints) := goodIn_app (goodIn_of _ (by decide +kernel)) ggX9_duration_X0_countPrints
theorem dX9_duration_0 : decode cX9_duration 0 = .ok (.aload_n 0, 1) := by decide +kernel
theorem dX9_duration_1 : decode cX9_duration 1 = .ok (.iload_n 1, 1) := by decide +kernel
theorem dX9_duration_2 : decode cX9_duration 2 = .ok (.invokevirtual 92, 3) := by decide +kernel
theorem dX9_duration_5 : decode cX9_duration 5 = .ok (.astore_n 2, 1) := by decide +kernel
theorem dX9_duration_6 : decode cX9_duration 6 = .ok (.aload_n 0, 1) := by decide +kernel
theorem dX9_duration_7 : decode cX9_duration 7 = .ok (.getfield 12, 3) := by decide +kernel
theorem dX9_duration_10 : decode cX9_duration 10 = .ok (.aload_n 2, 1) := by decide +kernel
theorem dX9_duration_11 : decode cX9_duration 11 = .ok (.iconst 0, 1) := by decide +kernel
theorem dX9_duration_12 : decode cX9_duration 12 = .ok (.invokevirtual 226, 3) := by decide +kernel
theorem dX9_duration_15 : decode cX9_duration 15 = .ok (.invokestatic 195, 3) := by decide +kernel
theorem dX9_duration_18 : decode cX9_duration 18 = .ok (.astore_n 3, 1) := by decide +kernel
theorem dX9_duration_19 : decode cX9_duration 19 = .ok (.aload_n 0, 1) := by decide +kernel
theorem dX9_duration_20 : decode cX9_duration 20 = .ok (.getfield 12, 3) := by decide +kernel
theorem dX9_duration_23 : decode cX9_duration 23 = .ok (.aload_n 2, 1) := by decide +kernel
theorem dX9_duration_24 : decode cX9_duration 24 = .ok (.aload_n 0, 1) := by decide +kernel
theorem dX9_duration_25 : decode cX9_duration 25 = .ok (.getfield 12, 3) := by decide +kernel
theorem dX9_duration_28 : decode cX9_duration 28 = .ok (.aload_n 2, 1) := by decide +kernel
theorem dX9_duration_29 : decode cX9_duration 29 = .ok (.invokevirtual 223, 3) := by decide +kernel
theorem dX9_duration_32 : decode cX9_duration 32 = .ok (.iconst 1, 1) := by decide +kernel
theorem dX9_duration_33 : decode cX9_duration 33 = .ok (.isub, 1) := by decide +kernel
theorem dX9_duration_34 : decode cX9_duration 34 = .ok (.invokevirtual 226, 3) := by decide +kernel
theorem dX9_duration_37 : decode cX9_duration 37 = .ok (.invokestatic 195, 3) := by decide +kernel
theorem dX9_duration_40 : decode cX9_duration 40 = .ok (.astore 4, 2) := by decide +kernel
theorem dX9_duration_42 : decode cX9_duration 42 = .ok (.aload 4, 2) := by decide +kernel
theorem dX9_duration_44 : decode cX9_duration 44 = .ok (.getfield 170, 3) := by decide +kernel
theorem dX9_duration_47 : decode cX9_duration 47 = .ok (.aload_n 3, 1) := by decide +kernel
theorem dX9_duration_48 : decode cX9_duration 48 = .ok (.getfield 170, 3) := by decide +kernel
theorem dX9_duration_51 : decode cX9_duration 51 = .ok (.isub, 1) := by decide +kernel
theorem dX9_duration_52 : decode cX9_duration 52 = .ok (.ireturn, 1) := by decide +kernel
set_option maxRecDepth 20000 in
theorem ggX9_averageStride_X9_requireTrack : GoodIn wsX9_averageStride wsX9_requireTrack := goodIn_ca (goodIn_r _ [9, 10, 11, 3, 12, 13, 14, 15, 16, 17, 18, 19, 63, 64, 65, 66, 67, 68, 69, 70, 71, 72, 73, 74, 75, 76, 77, 78, 79, 80, 81, 82] (by decide +kernel) (by decide +kernel)) (goodIn_sub (fun _ h => List.mem_cons_of_mem _ (List.mem_append_right _ h)) (by decide +kernel))
set_option maxRecDepth 20000 in
theorem gX9_averageStride_X9_requireTrack : GoodIn wsX9_averageStride (wsV RX9 92 RX9 yX9_requireTrack wsX9_requireTrack) := goodIn_app (goodIn_of _ (by decide +kernel)) ggX9_averageStride_X9_requireTrack
set_option maxRecDepth 20000 in
theorem ggX9_averageStride_X0_countPrints : GoodIn wsX9_averageStride wsX0_countPrints := goodIn_r _ [23, 19, 24, 25, 26, 15, 27, 28, 29, 30, 31, 32, 33, 34, 35, 36, 80, 81, 82, 73, 74, 75, 76, 77, 78, 79, 83, 84, 85, 86, 87, 88, 89, 90, 91, 92] (by decide +kernel) (by decide +kernel)
set_option maxRecDepth 20000 in
theorem gX9_averageStride_X0_countPrints : GoodIn wsX9_averageStride (wsV RX9 223 RX0 yX0_countPrints wsX0_countPrints) := goodIn_app (goodIn_of _ (by decide +kernel)) ggX9_averageStride_X0_countPrints
set_option maxRecDepth 20000 in
theorem ggX9_averageStride_X4_lengthByPrints : GoodIn wsX9_averageStride wsX4_lengthByPrints := goodIn_r _ [41, 42, 43, 44, 45, 46, 47, 31, 32, 33, 34, 35, 36, 48, 49, 50, 15, 51, 28, 52, 29, 30, 53, 54, 55, 56, 57, 58, 59, 60, 61, 62, 93, 73, 74, 75, 76, 77, 78, 79, 80, 81, 82, 83, 84, 85, 86, 87, 88, 89, 90, 91, 92] (by decide +kernel) (by decide +kernel)
set_option maxRecDepth 20000 in
theorem gX9_averageStride_X4_lengthByPrints : GoodIn wsX9_averageStride (wsV RX9 230 RX4 yX4_lengthByPrints wsX4_lengthByPrints) := goodIn_app (goodIn_of _ (by decide +kernel)) ggX9_averageStride_X4_lengthByPrints
