/-! acts, build: their code and words -/
set_option maxRecDepth 20000 in
theorem ggL_acts_L_some : GoodIn wsL_acts wsL_some := goodIn_ca (goodIn_ca (goodIn_r _ [11, 12, 13, 10, 14] (by decide +kernel) (by decide +kernel)) (goodIn_sub (fun _ h => List.mem_cons_of_mem _ (List.mem_append_left _ (List.mem_append_left _ (List.mem_append_left _ (List.mem_append_left _ (List.mem_append_left _ (List.mem_append_right _ h))))))) (by decide +kernel))) (goodIn_sub (fun _ h => List.mem_cons_of_mem _ (List.mem_append_left _ (List.mem_append_left _ (List.mem_append_left _ (List.mem_append_left _ (List.mem_append_right _ h)))))) (by decide +kernel))
set_option maxRecDepth 20000 in
theorem gL_acts_L_some : GoodIn wsL_acts (va_wsS RL 79 yL_some wsL_some) := goodIn_app (goodIn_of _ (by decide +kernel)) ggL_acts_L_some
set_option maxRecDepth 20000 in
theorem ggL_acts_L_print : GoodIn wsL_acts wsL_print := goodIn_ca (goodIn_ca (goodIn_r _ [17, 18, 19, 20, 21, 22, 23, 24, 25, 26, 27, 28, 29, 30, 31, 32, 33, 34, 35, 36, 37, 38, 39, 40, 41, 42, 43, 44, 45, 46, 47, 48, 49, 50, 51, 400, 401, 402, 403, 404, 405, 406, 407, 408, 409, 410, 411, 412, 413, 414, 415, 416, 417, 418, 419, 420, 421, 422, 423, 424, 425, 426] (by decide +kernel) (by decide +kernel)) (goodIn_sub (fun _ h => List.mem_cons_of_mem _ (List.mem_append_left _ (List.mem_append_left _ (List.mem_append_left _ (List.mem_append_left _ (List.mem_append_left _ (List.mem_append_right _ h))))))) (by decide +kernel))) (goodIn_sub (fun _ h => List.mem_cons_of_mem _ (List.mem_append_left _ (List.mem_append_left _ (List.mem_append_left _ (List.mem_append_right _ h))))) (by decide +kernel))
set_option maxRecDepth 20000 in
theorem gL_acts_L_print : GoodIn wsL_acts (va_wsS RL 96 yL_print wsL_print) := goodIn_app (goodIn_of _ (by decide +kernel)) ggL_acts_L_print
set_option maxRecDepth 20000 in
theorem ggL_acts_X9_trackCount : GoodIn wsL_acts wsX9_trackCount := goodIn_r _ [55, 23, 56, 57, 58, 27, 59, 60, 61, 400, 401, 402, 403, 404, 405, 406, 407, 408, 409, 410, 411, 412, 413, 414, 415, 416, 427, 428, 429] (by decide +kernel) (by decide +kernel)
set_option maxRecDepth 20000 in
theorem gL_acts_X9_trackCount : GoodIn wsL_acts (wsV RL 99 RX9 yX9_trackCount wsX9_trackCount) := goodIn_app (goodIn_of _ (by decide +kernel)) ggL_acts_X9_trackCount
set_option maxRecDepth 20000 in
theorem ggL_acts_L_addTrack : GoodIn wsL_acts wsL_addTrack := goodIn_ca (goodIn_ca (goodIn_ca (goodIn_ca (a := []) (goodIn_r _ [64] (by decide +kernel) (by decide +kernel)) (goodIn_app (goodIn_app (goodIn_app (goodIn_app (goodIn_app (goodIn_app (goodIn_app (goodIn_r _ [65, 66, 67, 68, 69, 21, 70, 71, 72, 23, 73, 74, 75, 76, 77, 78, 79, 27, 80, 81, 82, 83, 84, 57] (by decide +kernel) (by decide +kernel)) (goodIn_app (goodIn_r _ [58, 59, 60, 61, 85, 86, 87, 88, 89, 90, 91, 92, 93, 94, 95, 96, 97, 98, 99, 100, 101, 102, 103, 104] (by decide +kernel) (by decide +kernel)) (goodIn_app (goodIn_r _ [105, 106, 107, 108, 2, 3, 4, 109, 110, 111, 112, 33, 113, 114, 115, 116, 117, 118, 119, 120, 121, 122, 123, 124] (by decide +kernel) (by decide +kernel)) (goodIn_app (goodIn_r _ [125, 126, 127, 128, 129, 130, 131, 132, 133, 134, 135, 136, 137, 138, 139, 140, 141, 142, 143, 144, 145, 146, 147, 148] (by decide +kernel) (by decide +kernel)) (goodIn_r _ [149, 150, 151, 152, 153, 154, 40, 41] (by decide +kernel) (by decide +kernel)))))) (goodIn_r _ [400, 401, 402, 403, 404, 405, 406, 407, 408, 409] (by decide +kernel) (by decide +kernel))) (goodIn_r _ [430, 431, 432] (by decide +kernel) (by decide +kernel))) (goodIn_r _ [410, 411, 412, 413, 414, 415, 416] (by decide +kernel) (by decide +kernel))) (goodIn_r _ [427, 428, 429] (by decide +kernel) (by decide +kernel))) (goodIn_r _ [433, 434] (by decide +kernel) (by decide +kernel))) (goodIn_r _ [417, 418, 419, 420, 421, 422, 423, 424, 425, 426] (by decide +kernel) (by decide +kernel)))) (goodIn_sub (fun _ h => List.mem_cons_of_mem _ (List.mem_append_left _ (List.mem_append_left _ (List.mem_append_right _ h)))) (by decide +kernel))) (goodIn_sub (fun _ h => List.mem_cons_of_mem _ (List.mem_append_left _ (List.mem_append_right _ h))) (by decide +kernel))) (goodIn_sub (fun _ h => List.mem_cons_of_mem _ (List.mem_append_left _ (List.mem_append_left _ (List.mem_append_left _ (List.mem_append_right _ h))))) (by decide +kernel))
set_option maxRecDepth 20000 in
theorem gL_acts_L_addTrack : GoodIn wsL_acts (va_wsS RL 83 yL_addTrack wsL_addTrack) := goodIn_app (goodIn_of _ (by decide +kernel)) ggL_acts_L_addTrack
set_option maxRecDepth 20000 in
theorem ggL_acts_L_setTide : GoodIn wsL_acts wsL_setTide := goodIn_ca (goodIn_ca (goodIn_ca (goodIn_ca (a := []) (goodIn_r _ [157] (by decide +kernel) (by decide +kernel)) (goodIn_app (goodIn_app (goodIn_app (goodIn_app (goodIn_app (goodIn_app (goodIn_app (goodIn_r _ [65, 66, 158, 159, 160, 21, 161, 23, 73, 162, 163, 164, 71, 72, 165, 166, 167, 168, 169, 170, 27, 171, 113, 81] (by decide +kernel) (by decide +kernel)) (goodIn_app (goodIn_r _ [82, 83, 85, 86, 87, 88, 89, 90, 91, 92, 93, 94, 95, 96, 97, 98, 99, 100, 101, 102, 103, 104, 105, 106] (by decide +kernel) (by decide +kernel)) (goodIn_app (goodIn_r _ [107, 108, 2, 3, 4, 109, 110, 111, 112, 60, 33, 114, 115, 116, 117, 118, 119, 120, 121, 122, 123, 124, 125, 126] (by decide +kernel) (by decide +kernel)) (goodIn_app (goodIn_r _ [127, 128, 129, 130, 131, 132, 133, 134, 135, 136, 137, 138, 139, 140, 172, 173, 174, 175, 34, 35, 176, 177, 178, 179] (by decide +kernel) (by decide +kernel)) (goodIn_r _ [147, 148, 149, 150, 151, 152, 153, 154, 40, 41] (by decide +kernel) (by decide +kernel)))))) (goodIn_r _ [400, 401, 402, 403, 404, 405, 406, 407, 408, 409] (by decide +kernel) (by decide +kernel))) (goodIn_r _ [410, 411, 412, 413, 414, 415, 416] (by decide +kernel) (by decide +kernel))) (goodIn_r _ [430, 431, 432] (by decide +kernel) (by decide +kernel))) (goodIn_r _ [433, 434] (by decide +kernel) (by decide +kernel))) (goodIn_r _ [427, 428, 429] (by decide +kernel) (by decide +kernel))) (goodIn_r _ [417, 418, 419, 420, 421, 422, 423, 424, 425, 426] (by decide +kernel) (by decide +kernel)))) (goodIn_sub (fun _ h => List.mem_cons_of_mem _ (List.mem_append_left _ (List.mem_append_left _ (List.mem_append_right _ h)))) (by decide +kernel))) (goodIn_sub (fun _ h => List.mem_cons_of_mem _ (List.mem_append_left _ (List.mem_append_right _ h))) (by decide +kernel))) (goodIn_sub (fun _ h => List.mem_cons_of_mem _ (List.mem_append_left _ (List.mem_append_left _ (List.mem_append_left _ (List.mem_append_right _ h))))) (by decide +kernel))
set_option maxRecDepth 20000 in
theorem gL_acts_L_setTide : GoodIn wsL_acts (va_wsS RL 102 yL_setTide wsL_setTide) := goodIn_app (goodIn_of _ (by decide +kernel)) ggL_acts_L_setTide
set_option maxRecDepth 20000 in
theorem ggL_acts_X9_totalPrints : GoodIn wsL_acts wsX9_totalPrints := goodIn_r _ [22, 23, 24, 25, 26, 27, 28, 29, 30, 31, 32, 33, 34, 35, 400, 401, 402, 403, 404, 405, 406, 407, 408, 409, 410, 411, 412, 413, 414, 415, 416, 417, 418, 419, 420, 421, 422, 423, 424, 425, 426] (by decide +kernel) (by decide +kernel)
set_option maxRecDepth 20000 in
theorem gL_acts_X9_totalPrints : GoodIn wsL_acts (wsV RL 93 RX9 yX9_totalPrints wsX9_totalPrints) := goodIn_app (goodIn_of _ (by decide +kernel)) ggL_acts_X9_totalPrints
set_option maxRecDepth 20000 in
theorem ggL_acts_X9_trackByErrors : GoodIn wsL_acts wsX9_trackByErrors := goodIn_ca (goodIn_ca (a := []) (goodIn_r _ [183] (by decide +kernel) (by decide +kernel)) (goodIn_app (goodIn_app (goodIn_app (goodIn_app (goodIn_app (goodIn_app (goodIn_r _ [40, 41, 23, 184, 185, 186, 187, 188, 189, 190, 191, 192, 193, 194, 195, 196, 197, 198, 199, 200, 201, 202, 203, 204] (by decide +kernel) (by decide +kernel)) (goodIn_app (goodIn_r _ [129, 205, 131, 133, 206, 207, 208, 27, 209, 33, 210, 50, 211, 212, 213, 214, 215, 216, 217, 218, 219, 220, 221, 222] (by decide +kernel) (by decide +kernel)) (goodIn_app (goodIn_r _ [223, 60, 61, 145, 224, 225, 226, 227, 135, 228, 229, 3, 230, 136, 231, 232, 233, 234, 235, 236, 237, 238, 239, 240] (by decide +kernel) (by decide +kernel)) (goodIn_r _ [241, 242, 243, 244, 245, 246, 247, 248, 249] (by decide +kernel) (by decide +kernel))))) (goodIn_r _ [400, 401, 402, 403, 404, 405, 406, 407, 408, 409] (by decide +kernel) (by decide +kernel))) (goodIn_r _ [410, 411, 412, 413, 414, 415, 416] (by decide +kernel) (by decide +kernel))) (goodIn_r _ [427, 428, 429] (by decide +kernel) (by decide +kernel))) (goodIn_r _ [435] (by decide +kernel) (by decide +kernel))) (goodIn_r _ [417, 418, 419, 420, 421, 422, 423, 424, 425, 426] (by decide +kernel) (by decide +kernel)))) (goodIn_sub (fun _ h => List.mem_cons_of_mem _ (List.mem_append_left _ (List.mem_append_left _ (List.mem_append_left _ (List.mem_append_right _ h))))) (by decide +kernel))
set_option maxRecDepth 20000 in
theorem gL_acts_X9_trackByErrors : GoodIn wsL_acts (wsV RL 70 RX9 yX9_trackByErrors wsX9_trackByErrors) := goodIn_app (goodIn_of _ (by decide +kernel)) ggL_acts_X9_trackByErrors
set_option maxRecDepth 20000 in
theorem ggL_acts_L_addPrint : GoodIn wsL_acts wsL_addPrint := goodIn_ca (goodIn_ca (goodIn_ca (goodIn_ca (goodIn_ca (a := []) (goodIn_r _ [252] (by decide +kernel) (by decide +kernel)) (goodIn_app (goodIn_app (goodIn_app (goodIn_app (goodIn_app (goodIn_app (goodIn_app (goodIn_r _ [253, 65, 66, 254, 255, 256, 21, 257, 71, 72, 23, 73, 258, 259, 260, 261, 262, 263, 264, 221, 222, 27, 223, 60] (by decide +kernel) (by decide +kernel)) (goodIn_app (goodIn_r _ [61, 145, 265, 266, 267, 268, 269, 270, 271, 272, 273, 274, 275, 276, 277, 278, 279, 280, 281, 282, 283, 81, 82, 83] (by decide +kernel) (by decide +kernel)) (goodIn_app (goodIn_r _ [51, 284, 25, 26, 28, 29, 30, 31, 32, 33, 34, 35, 85, 86, 87, 88, 89, 90, 91, 92, 93, 285, 286, 287] (by decide +kernel) (by decide +kernel)) (goodIn_app (goodIn_r _ [288, 50, 211, 203, 204, 129, 205, 131, 133, 289, 290, 291, 292, 113, 176, 177, 178, 179, 293, 294, 295, 296, 297, 94] (by decide +kernel) (by decide +kernel)) (goodIn_app (goodIn_r _ [95, 96, 97, 98, 99, 100, 101, 102, 103, 104, 105, 106, 107, 108, 2, 3, 4, 109, 110, 111, 112, 114, 115, 116] (by decide +kernel) (by decide +kernel)) (goodIn_app (goodIn_r _ [117, 118, 119, 120, 121, 122, 123, 124, 125, 126, 127, 128, 130, 132, 134, 135, 136, 137, 138, 139, 140, 298, 299, 300] (by decide +kernel) (by decide +kernel)) (goodIn_r _ [301, 210, 302, 303, 49, 304, 246, 247, 248, 249, 147, 148, 149, 150, 151, 152, 153, 154, 40, 41] (by decide +kernel) (by decide +kernel)))))))) (goodIn_r _ [400, 401, 402, 403, 404, 405, 406, 407, 408, 409] (by decide +kernel) (by decide +kernel))) (goodIn_r _ [410, 411, 412, 413, 414, 415, 416] (by decide +kernel) (by decide +kernel))) (goodIn_r _ [427, 428, 429] (by decide +kernel) (by decide +kernel))) (goodIn_r _ [430, 431, 432] (by decide +kernel) (by decide +kernel))) (goodIn_r _ [417, 418, 419, 420, 421, 422, 423, 424, 425, 426] (by decide +kernel) (by decide +kernel))) (goodIn_r _ [433, 434] (by decide +kernel) (by decide +kernel)))) (goodIn_sub (fun _ h => List.mem_cons_of_mem _ (List.mem_append_left _ (List.mem_append_left _ (List.mem_append_right _ h)))) (by decide +kernel))) (goodIn_sub (fun _ h => List.mem_cons_of_mem _ (List.mem_append_right _ h)) (by decide +kernel))) (goodIn_sub (fun _ h => List.mem_cons_of_mem _ (List.mem_append_left _ (List.mem_append_right _ h))) (by decide +kernel))) (goodIn_sub (fun _ h => List.mem_cons_of_mem _ (List.mem_append_left _ (List.mem_append_left _ (List.mem_append_left _ (List.mem_append_right _ h))))) (by decide +kernel))
set_option maxRecDepth 20000 in
theorem gL_acts_L_addPrint : GoodIn wsL_acts (va_wsS RL 86 yL_addPrint wsL_addPrint) := goodIn_app (goodIn_of _ (by decide +kernel)) ggL_acts_L_addPrint
set_option maxRecDepth 20000 in
theorem ggL_acts_L_removePrint : GoodIn wsL_acts wsL_removePrint := goodIn_ca (goodIn_ca (a := []) (goodIn_r _ [307] (by decide +kernel) (by decide +kernel)) (goodIn_app (goodIn_app (goodIn_app (goodIn_app (goodIn_app (goodIn_app (goodIn_r _ [253, 308, 309, 310, 21, 311, 73, 23, 312, 313, 314, 315, 316, 262, 263, 317, 318, 319, 27, 320, 33, 34, 51, 101] (by decide +kernel) (by decide +kernel)) (goodIn_app (goodIn_r _ [102, 103, 104, 105, 106, 107, 108, 2, 3, 4, 109, 110, 111, 112, 60, 113, 114, 115, 116, 117, 118, 119, 120, 121] (by decide +kernel) (by decide +kernel)) (goodIn_r _ [122, 123, 124, 125, 126, 127, 128, 129, 130, 131, 132, 133, 134, 135, 136, 137, 138, 139, 140, 321, 322, 323, 324] (by decide +kernel) (by decide +kernel)))) (goodIn_r _ [400, 401, 402, 403, 404, 405, 406, 407, 408, 409] (by decide +kernel) (by decide +kernel))) (goodIn_r _ [417, 418, 419, 420, 421, 422, 423, 424, 425, 426] (by decide +kernel) (by decide +kernel))) (goodIn_r _ [410, 411, 412, 413, 414, 415, 416] (by decide +kernel) (by decide +kernel))) (goodIn_r _ [433, 434] (by decide +kernel) (by decide +kernel))) (goodIn_r _ [427, 428, 429] (by decide +kernel) (by decide +kernel)))) (goodIn_sub (fun _ h => List.mem_cons_of_mem _ (List.mem_append_right _ h)) (by decide +kernel))
set_option maxRecDepth 20000 in
theorem gL_acts_L_removePrint : GoodIn wsL_acts (va_wsS RL 104 yL_removePrint wsL_removePrint) := goodIn_app (goodIn_of _ (by decide +kernel)) ggL_acts_L_removePrint
set_option maxRecDepth 20000 in
theorem ggL_acts_X9_swapFoot : GoodIn wsL_acts wsX9_swapFoot := goodIn_ca (goodIn_r _ [328, 73, 23, 313, 314, 315, 21, 316, 262, 263, 317, 318, 319, 27, 320, 33, 34, 51, 101, 102, 103, 104, 105, 106, 107, 108, 2, 3, 4, 109, 110, 111, 112, 60, 113, 114, 115, 116, 117, 118, 119, 120, 121, 122, 123, 124, 125, 126, 127, 128, 129, 130, 131, 132, 133, 134, 135, 136, 137, 138, 139, 140, 329, 330, 331, 332, 400, 401, 402, 403, 404, 405, 406, 407, 408, 409, 410, 411, 412, 413, 414, 415, 416, 417, 418, 419, 420, 421, 422, 423, 424, 425, 426, 433, 434, 427, 428, 429] (by decide +kernel) (by decide +kernel)) (goodIn_sub (fun _ h => List.mem_cons_of_mem _ (List.mem_append_right _ h)) (by decide +kernel))
set_option maxRecDepth 20000 in
theorem gL_acts_X9_swapFoot : GoodIn wsL_acts (wsV RL 106 RX9 yX9_swapFoot wsX9_swapFoot) := goodIn_app (goodIn_of _ (by decide +kernel)) ggL_acts_X9_swapFoot
set_option maxRecDepth 20000 in
theorem ggL_acts_L_doubtToes : GoodIn wsL_acts wsL_doubtToes := goodIn_ca (goodIn_ca (goodIn_ca (goodIn_ca (a := []) (goodIn_r _ [335] (by decide +kernel) (by decide +kernel)) (goodIn_app (goodIn_app (goodIn_app (goodIn_app (goodIn_app (goodIn_app (goodIn_app (goodIn_r _ [253, 66, 336, 337, 338, 21, 339, 23, 73, 313, 314, 315, 316, 262, 263, 317, 318, 319, 27, 320, 33, 34, 51, 340] (by decide +kernel) (by decide +kernel)) (goodIn_app (goodIn_r _ [341, 342, 343, 49, 81, 82, 83, 85, 86, 87, 88, 89, 90, 91, 92, 93, 94, 95, 96, 97, 98, 99, 100, 101] (by decide +kernel) (by decide +kernel)) (goodIn_app (goodIn_r _ [102, 103, 104, 105, 106, 107, 108, 2, 3, 4, 109, 110, 111, 112, 60, 113, 114, 115, 116, 117, 118, 119, 120, 121] (by decide +kernel) (by decide +kernel)) (goodIn_app (goodIn_r _ [122, 123, 124, 125, 126, 127, 128, 129, 130, 131, 132, 133, 134, 135, 136, 137, 138, 139, 140, 344, 345, 346, 347, 147] (by decide +kernel) (by decide +kernel)) (goodIn_r _ [148, 149, 150, 151, 152, 153, 154, 40, 41] (by decide +kernel) (by decide +kernel)))))) (goodIn_r _ [400, 401, 402, 403, 404, 405, 406, 407, 408, 409] (by decide +kernel) (by decide +kernel))) (goodIn_r _ [410, 411, 412, 413, 414, 415, 416] (by decide +kernel) (by decide +kernel))) (goodIn_r _ [417, 418, 419, 420, 421, 422, 423, 424, 425, 426] (by decide +kernel) (by decide +kernel))) (goodIn_r _ [430, 431, 432] (by decide +kernel) (by decide +kernel))) (goodIn_r _ [433, 434] (by decide +kernel) (by decide +kernel))) (goodIn_r _ [427, 428, 429] (by decide +kernel) (by decide +kernel)))) (goodIn_sub (fun _ h => List.mem_cons_of_mem _ (List.mem_append_right _ h)) (by decide +kernel))) (goodIn_sub (fun _ h => List.mem_cons_of_mem _ (List.mem_append_left _ (List.mem_append_right _ h))) (by decide +kernel))) (goodIn_sub (fun _ h => List.mem_cons_of_mem _ (List.mem_append_left _ (List.mem_append_left _ (List.mem_append_left _ (List.mem_append_right _ h))))) (by decide +kernel))
set_option maxRecDepth 20000 in
theorem gL_acts_L_doubtToes : GoodIn wsL_acts (va_wsS RL 110 yL_doubtToes wsL_doubtToes) := goodIn_app (goodIn_of _ (by decide +kernel)) ggL_acts_L_doubtToes
set_option maxRecDepth 20000 in
theorem ggL_acts_L_confirmToes : GoodIn wsL_acts wsL_confirmToes := goodIn_ca (goodIn_ca (goodIn_ca (goodIn_ca (a := []) (goodIn_r _ [350] (by decide +kernel) (by decide +kernel)) (goodIn_app (goodIn_app (goodIn_app (goodIn_app (goodIn_app (goodIn_app (goodIn_app (goodIn_r _ [253, 66, 351, 352, 353, 21, 354, 23, 73, 313, 314, 315, 316, 262, 263, 317, 318, 319, 27, 320, 33, 34, 51, 355] (by decide +kernel) (by decide +kernel)) (goodIn_app (goodIn_r _ [356, 357, 358, 49, 81, 82, 83, 85, 86, 87, 88, 89, 90, 91, 92, 93, 94, 95, 96, 97, 98, 99, 100, 101] (by decide +kernel) (by decide +kernel)) (goodIn_app (goodIn_r _ [102, 103, 104, 105, 106, 107, 108, 2, 3, 4, 109, 110, 111, 112, 60, 113, 114, 115, 116, 117, 118, 119, 120, 121] (by decide +kernel) (by decide +kernel)) (goodIn_app (goodIn_r _ [122, 123, 124, 125, 126, 127, 128, 129, 130, 131, 132, 133, 134, 135, 136, 137, 138, 139, 140, 359, 360, 361, 362, 147] (by decide +kernel) (by decide +kernel)) (goodIn_r _ [148, 149, 150, 151, 152, 153, 154, 40, 41] (by decide +kernel) (by decide +kernel)))))) (goodIn_r _ [400, 401, 402, 403, 404, 405, 406, 407, 408, 409] (by decide +kernel) (by decide +kernel))) (goodIn_r _ [410, 411, 412, 413, 414, 415, 416] (by decide +kernel) (by decide +kernel))) (goodIn_r _ [417, 418, 419, 420, 421, 422, 423, 424, 425, 426] (by decide +kernel) (by decide +kernel))) (goodIn_r _ [430, 431, 432] (by decide +kernel) (by decide +kernel))) (goodIn_r _ [433, 434] (by decide +kernel) (by decide +kernel))) (goodIn_r _ [427, 428, 429] (by decide +kernel) (by decide +kernel)))) (goodIn_sub (fun _ h => List.mem_cons_of_mem _ (List.mem_append_right _ h)) (by decide +kernel))) (goodIn_sub (fun _ h => List.mem_cons_of_mem _ (List.mem_append_left _ (List.mem_append_right _ h))) (by decide +kernel))) (goodIn_sub (fun _ h => List.mem_cons_of_mem _ (List.mem_append_left _ (List.mem_append_left _ (List.mem_append_left _ (List.mem_append_right _ h))))) (by decide +kernel))
set_option maxRecDepth 20000 in
theorem gL_acts_L_confirmToes : GoodIn wsL_acts (va_wsS RL 112 yL_confirmToes wsL_confirmToes) := goodIn_app (goodIn_of _ (by decide +kernel)) ggL_acts_L_confirmToes
set_option maxRecDepth 20000 in
theorem ggL_acts_L_removeTrack : GoodIn wsL_acts wsL_removeTrack := goodIn_ca (goodIn_ca (a := []) (goodIn_r _ [365] (by decide +kernel) (by decide +kernel)) (goodIn_app (goodIn_app (goodIn_app (goodIn_app (goodIn_app (goodIn_app (goodIn_r _ [253, 366, 367, 368, 21, 369, 73, 23, 258, 259, 260, 261, 262, 263, 264, 221, 222, 27, 223, 60, 61, 145, 101, 102] (by decide +kernel) (by decide +kernel)) (goodIn_app (goodIn_r _ [103, 104, 105, 106, 107, 108, 2, 3, 4, 109, 110, 111, 112, 33, 113, 114, 115, 116, 117, 118, 119, 120, 121, 122] (by decide +kernel) (by decide +kernel)) (goodIn_app (goodIn_r _ [123, 124, 125, 126, 127, 128, 129, 130, 131, 132, 133, 134, 135, 136, 137, 138, 139, 140, 370, 371, 372, 373, 34, 211] (by decide +kernel) (by decide +kernel)) (goodIn_r _ [203, 204, 205] (by decide +kernel) (by decide +kernel))))) (goodIn_r _ [400, 401, 402, 403, 404, 405, 406, 407, 408, 409] (by decide +kernel) (by decide +kernel))) (goodIn_r _ [410, 411, 412, 413, 414, 415, 416] (by decide +kernel) (by decide +kernel))) (goodIn_r _ [427, 428, 429] (by decide +kernel) (by decide +kernel))) (goodIn_r _ [433, 434] (by decide +kernel) (by decide +kernel))) (goodIn_r _ [417, 418, 419, 420, 421, 422, 423, 424, 425, 426] (by decide +kernel) (by decide +kernel)))) (goodIn_sub (fun _ h => List.mem_cons_of_mem _ (List.mem_append_right _ h)) (by decide +kernel))
set_option maxRecDepth 20000 in
theorem gL_acts_L_removeTrack : GoodIn wsL_acts (va_wsS RL 114 yL_removeTrack wsL_removeTrack) := goodIn_app (goodIn_of _ (by decide +kernel)) ggL_acts_L_removeTrack
set_option maxRecDepth 20000 in
theorem ggL_acts_X9_rowOf : GoodIn wsL_acts wsX9_rowOf := goodIn_ca (goodIn_r _ [377, 378, 313, 314, 315, 21, 316, 262, 263, 23, 317, 318, 319, 27, 320, 33, 34, 51, 417, 418, 419, 420, 421, 422, 423, 424, 425, 426, 400, 401, 402, 403, 404, 405, 406, 407, 408, 409, 410, 411, 412, 413, 414, 415, 416] (by decide +kernel) (by decide +kernel)) (goodIn_sub (fun _ h => List.mem_cons_of_mem _ (List.mem_append_right _ h)) (by decide +kernel))
set_option maxRecDepth 20000 in
theorem gL_acts_X9_rowOf : GoodIn wsL_acts (wsV RL 116 RX9 yX9_rowOf wsX9_rowOf) := goodIn_app (goodIn_of _ (by decide +kernel)) ggL_acts_X9_rowOf
set_option maxRecDepth 20000 in
theorem ggL_acts_X9_columnOf : GoodIn wsL_acts wsX9_columnOf := goodIn_ca (goodIn_r _ [382, 383, 313, 314, 315, 21, 316, 262, 263, 23, 317, 318, 319, 27, 320, 33, 34, 51, 417, 418, 419, 420, 421, 422, 423, 424, 425, 426, 400, 401, 402, 403, 404, 405, 406, 407, 408, 409, 410, 411, 412, 413, 414, 415, 416] (by decide +kernel) (by decide +kernel)) (goodIn_sub (fun _ h => List.mem_cons_of_mem _ (List.mem_append_right _ h)) (by decide +kernel))
set_option maxRecDepth 20000 in
theorem gL_acts_X9_columnOf : GoodIn wsL_acts (wsV RL 127 RX9 yX9_columnOf wsX9_columnOf) := goodIn_app (goodIn_of _ (by decide +kernel)) ggL_acts_X9_columnOf
set_option maxRecDepth 20000 in
theorem ggL_acts_L_correctHeel : GoodIn wsL_acts wsL_correctHeel := goodIn_ca (goodIn_ca (goodIn_ca (goodIn_ca (a := []) (goodIn_r _ [386] (by decide +kernel) (by decide +kernel)) (goodIn_app (goodIn_app (goodIn_app (goodIn_app (goodIn_app (goodIn_app (goodIn_app (goodIn_r _ [253, 66, 387, 388, 389, 21, 390, 23, 73, 313, 314, 315, 316, 262, 263, 317, 318, 319, 27, 320, 33, 34, 51, 265] (by decide +kernel) (by decide +kernel)) (goodIn_app (goodIn_r _ [266, 267, 268, 269, 270, 271, 272, 273, 391, 392, 393, 394, 81, 82, 83, 395, 225, 226, 129, 227, 135, 228, 229, 3] (by decide +kernel) (by decide +kernel)) (goodIn_app (goodIn_r _ [230, 136, 85, 86, 87, 88, 89, 90, 91, 92, 93, 289, 290, 291, 292, 113, 176, 177, 178, 179, 293, 294, 295, 296] (by decide +kernel) (by decide +kernel)) (goodIn_app (goodIn_r _ [35, 297, 94, 95, 96, 97, 98, 99, 100, 101, 102, 103, 104, 105, 106, 107, 108, 2, 4, 109, 110, 111, 112, 60] (by decide +kernel) (by decide +kernel)) (goodIn_app (goodIn_r _ [114, 115, 116, 117, 118, 119, 120, 121, 122, 123, 124, 125, 126, 127, 128, 130, 131, 132, 133, 134, 137, 138, 139, 140] (by decide +kernel) (by decide +kernel)) (goodIn_r _ [396, 397, 398, 399, 147, 148, 149, 150, 151, 152, 153, 154, 40, 41] (by decide +kernel) (by decide +kernel))))))) (goodIn_r _ [400, 401, 402, 403, 404, 405, 406, 407, 408, 409] (by decide +kernel) (by decide +kernel))) (goodIn_r _ [410, 411, 412, 413, 414, 415, 416] (by decide +kernel) (by decide +kernel))) (goodIn_r _ [417, 418, 419, 420, 421, 422, 423, 424, 425, 426] (by decide +kernel) (by decide +kernel))) (goodIn_r _ [430, 431, 432] (by decide +kernel) (by decide +kernel))) (goodIn_r _ [433, 434] (by decide +kernel) (by decide +kernel))) (goodIn_r _ [427, 428, 429] (by decide +kernel) (by decide +kernel)))) (goodIn_sub (fun _ h => List.mem_cons_of_mem _ (List.mem_append_right _ h)) (by decide +kernel))) (goodIn_sub (fun _ h => List.mem_cons_of_mem _ (List.mem_append_left _ (List.mem_append_right _ h))) (by decide +kernel))) (goodIn_sub (fun _ h => List.mem_cons_of_mem _ (List.mem_append_left _ (List.mem_append_left _ (List.mem_append_left _ (List.mem_append_right _ h))))) (by decide +kernel))
set_option maxRecDepth 20000 in
theorem gL_acts_L_correctHeel : GoodIn wsL_acts (va_wsS RL 130 yL_correctHeel wsL_correctHeel) := goodIn_app (goodIn_of _ (by decide +kernel)) ggL_acts_L_correctHeel
theorem dL_acts_0 : decode cL_acts 0 = .ok (.aload_n 1, 1) := by decide +kernel
theorem dL_acts_1 : decode cL_acts 1 = .ok (.iload_n 2, 1) := by decide +kernel
theorem dL_acts_2 : decode cL_acts 2 = .ok (.iconst 1, 1) := by decide +kernel
theorem dL_acts_3 : decode cL_acts 3 = .ok (.iadd, 1) := by decide +kernel
theorem dL_acts_4 : decode cL_acts 4 = .ok (.sipush 900, 3) := by decide +kernel
theorem dL_acts_7 : decode cL_acts 7 = .ok (.invokestatic 79, 3) := by decide +kernel
theorem dL_acts_10 : decode cL_acts 10 = .ok (.istore_n 3, 1) := by decide +kernel
theorem dL_acts_11 : decode cL_acts 11 = .ok (.aload_n 1, 1) := by decide +kernel
theorem dL_acts_12 : decode cL_acts 12 = .ok (.iload_n 2, 1) := by decide +kernel
theorem dL_acts_13 : decode cL_acts 13 = .ok (.iconst 2, 1) := by decide +kernel
theorem dL_acts_14 : decode cL_acts 14 = .ok (.iadd, 1) := by decide +kernel
theorem dL_acts_15 : decode cL_acts 15 = .ok (.iconst 5, 1) := by decide +kernel
theorem dL_acts_16 : decode cL_acts 16 = .ok (.invokestatic 79, 3) := by decide +kernel
theorem dL_acts_19 : decode cL_acts 19 = .ok (.istore 4, 2) := by decide +kernel
theorem dL_acts_21 : decode cL_acts 21 = .ok (.aload_n 0, 1) := by decide +kernel
theorem dL_acts_22 : decode cL_acts 22 = .ok (.aload_n 1, 1) := by decide +kernel
theorem dL_acts_23 : decode cL_acts 23 = .ok (.iload_n 2, 1) := by decide +kernel
theorem dL_acts_24 : decode cL_acts 24 = .ok (.iconst 3, 1) := by decide +kernel
theorem dL_acts_25 : decode cL_acts 25 = .ok (.iadd, 1) := by decide +kernel
theorem dL_acts_26 : decode cL_acts 26 = .ok (.bipush 60, 2) := by decide +kernel
theorem dL_acts_28 : decode cL_acts 28 = .ok (.invokestatic 79, 3) := by decide +kernel
theorem dL_acts_31 : decode cL_acts 31 = .ok (.invokestatic 96, 3) := by decide +kernel
theorem dL_acts_34 : decode cL_acts 34 = .ok (.istore 5, 2) := by decide +kernel
theorem dL_acts_36 : decode cL_acts 36 = .ok (.aload_n 0, 1) := by decide +kernel
theorem dL_acts_37 : decode cL_acts 37 = .ok (.invokevirtual 99, 3) := by decide +kernel
theorem dL_acts_40 : decode cL_acts 40 = .ok (.istore 6, 2) := by decide +kernel
theorem dL_acts_42 : decode cL_acts 42 = .ok (.aload_n 1, 1) := by decide +kernel
theorem dL_acts_43 : decode cL_acts 43 = .ok (.iload_n 2, 1) := by decide +kernel
theorem dL_acts_44 : decode cL_acts 44 = .ok (.bipush 14, 2) := by decide +kernel
theorem dL_acts_46 : decode cL_acts 46 = .ok (.invokestatic 79, 3) := by decide +kernel
theorem dL_acts_49 : decode cL_acts 49 = .ok (.tableswitch 261 0 10 #[59, 84, 96, 96, 96, 162, 182, 206, 206, 217, 228], 59) := by decide +kernel
theorem dL_acts_108 : decode cL_acts 108 = .ok (.iload 6, 2) := by decide +kernel
theorem dL_acts_110 : decode cL_acts 110 = .ok (.iconst 5, 1) := by decide +kernel
theorem dL_acts_111 : decode cL_acts 111 = .ok (.if_icmp .ge 16, 3) := by decide +kernel
theorem dL_acts_114 : decode cL_acts 114 = .ok (.aload_n 0, 1) := by decide +kernel
theorem dL_acts_115 : decode cL_acts 115 = .ok (.iconst 1, 1) := by decide +kernel
theorem dL_acts_116 : decode cL_acts 116 = .ok (.iload_n 3, 1) := by decide +kernel
theorem dL_acts_117 : decode cL_acts 117 = .ok (.bipush 9, 2) := by decide +kernel
theorem dL_acts_119 : decode cL_acts 119 = .ok (.irem, 1) := by decide +kernel
theorem dL_acts_120 : decode cL_acts 120 = .ok (.iadd, 1) := by decide +kernel
theorem dL_acts_121 : decode cL_acts 121 = .ok (.invokestatic 83, 3) := by decide +kernel
theorem dL_acts_124 : decode cL_acts 124 = .ok (.goto 4, 3) := by decide +kernel
theorem dL_acts_127 : decode cL_acts 127 = .ok (.iconst 0, 1) := by decide +kernel
theorem dL_acts_128 : decode cL_acts 128 = .ok (.istore 7, 2) := by decide +kernel
theorem dL_acts_130 : decode cL_acts 130 = .ok (.goto 241, 3) := by decide +kernel
theorem dL_acts_133 : decode cL_acts 133 = .ok (.aload_n 0, 1) := by decide +kernel
theorem dL_acts_134 : decode cL_acts 134 = .ok (.iload_n 3, 1) := by decide +kernel
theorem dL_acts_135 : decode cL_acts 135 = .ok (.iconst 4, 1) := by decide +kernel
theorem dL_acts_136 : decode cL_acts 136 = .ok (.irem, 1) := by decide +kernel
theorem dL_acts_137 : decode cL_acts 137 = .ok (.invokestatic 102, 3) := by decide +kernel
theorem dL_acts_140 : decode cL_acts 140 = .ok (.istore 7, 2) := by decide +kernel
theorem dL_acts_142 : decode cL_acts 142 = .ok (.goto 229, 3) := by decide +kernel
theorem dL_acts_145 : decode cL_acts 145 = .ok (.iload 6, 2) := by decide +kernel
theorem dL_acts_147 : decode cL_acts 147 = .ok (.ifCond .le 58, 3) := by decide +kernel
theorem dL_acts_150 : decode cL_acts 150 = .ok (.aload_n 0, 1) := by decide +kernel
theorem dL_acts_151 : decode cL_acts 151 = .ok (.invokevirtual 93, 3) := by decide +kernel
theorem dL_acts_154 : decode cL_acts 154 = .ok (.bipush 14, 2) := by decide +kernel
theorem dL_acts_156 : decode cL_acts 156 = .ok (.if_icmp .ge 49, 3) := by decide +kernel
theorem dL_acts_159 : decode cL_acts 159 = .ok (.aload_n 0, 1) := by decide +kernel
theorem dL_acts_160 : decode cL_acts 160 = .ok (.aload_n 0, 1) := by decide +kernel
theorem dL_acts_161 : decode cL_acts 161 = .ok (.iload_n 3, 1) := by decide +kernel
theorem dL_acts_162 : decode cL_acts 162 = .ok (.iload 6, 2) := by decide +kernel
theorem dL_acts_164 : decode cL_acts 164 = .ok (.irem, 1) := by decide +kernel
theorem dL_acts_165 : decode cL_acts 165 = .ok (.invokevirtual 70, 3) := by decide +kernel
theorem dL_acts_168 : decode cL_acts 168 = .ok (.iload_n 3, 1) := by decide +kernel
theorem dL_acts_169 : decode cL_acts 169 = .ok (.bipush 60, 2) := by decide +kernel
theorem dL_acts_171 : decode cL_acts 171 = .ok (.irem, 1) := by decide +kernel
theorem dL_acts_172 : decode cL_acts 172 = .ok (.iconst 1, 1) := by decide +kernel
theorem dL_acts_173 : decode cL_acts 173 = .ok (.iload_n 3, 1) := by decide +kernel
theorem dL_acts_174 : decode cL_acts 174 = .ok (.bipush 8, 2) := by decide +kernel
theorem dL_acts_176 : decode cL_acts 176 = .ok (.irem, 1) := by decide +kernel
theorem dL_acts_177 : decode cL_acts 177 = .ok (.iadd, 1) := by decide +kernel
theorem dL_acts_178 : decode cL_acts 178 = .ok (.iload_n 3, 1) := by decide +kernel
theorem dL_acts_179 : decode cL_acts 179 = .ok (.bipush 20, 2) := by decide +kernel
theorem dL_acts_181 : decode cL_acts 181 = .ok (.irem, 1) := by decide +kernel
theorem dL_acts_182 : decode cL_acts 182 = .ok (.iload 4, 2) := by decide +kernel
theorem dL_acts_184 : decode cL_acts 184 = .ok (.iconst 3, 1) := by decide +kernel
theorem dL_acts_185 : decode cL_acts 185 = .ok (.if_icmp .ge 7, 3) := by decide +kernel
theorem dL_acts_188 : decode cL_acts 188 = .ok (.iconst 1, 1) := by decide +kernel
theorem dL_acts_189 : decode cL_acts 189 = .ok (.goto 4, 3) := by decide +kernel
theorem dL_acts_192 : decode cL_acts 192 = .ok (.iconst 0, 1) := by decide +kernel
theorem dL_acts_193 : decode cL_acts 193 = .ok (.iconst 1, 1) := by decide +kernel
theorem dL_acts_194 : decode cL_acts 194 = .ok (.iload_n 3, 1) := by decide +kernel
theorem dL_acts_195 : decode cL_acts 195 = .ok (.bipush 9, 2) := by decide +kernel
theorem dL_acts_197 : decode cL_acts 197 = .ok (.irem, 1) := by decide +kernel
theorem dL_acts_198 : decode cL_acts 198 = .ok (.iadd, 1) := by decide +kernel
theorem dL_acts_199 : decode cL_acts 199 = .ok (.invokestatic 86, 3) := by decide +kernel
theorem dL_acts_202 : decode cL_acts 202 = .ok (.goto 4, 3) := by decide +kernel
theorem dL_acts_205 : decode cL_acts 205 = .ok (.iconst 0, 1) := by decide +kernel
theorem dL_acts_206 : decode cL_acts 206 = .ok (.istore 7, 2) := by decide +kernel
theorem dL_acts_208 : decode cL_acts 208 = .ok (.goto 163, 3) := by decide +kernel
theorem dL_acts_211 : decode cL_acts 211 = .ok (.iload 5, 2) := by decide +kernel
theorem dL_acts_213 : decode cL_acts 213 = .ok (.ifCond .ge 7, 3) := by decide +kernel
theorem dL_acts_216 : decode cL_acts 216 = .ok (.iconst 0, 1) := by decide +kernel
theorem dL_acts_217 : decode cL_acts 217 = .ok (.goto 9, 3) := by decide +kernel
theorem dL_acts_220 : decode cL_acts 220 = .ok (.aload_n 0, 1) := by decide +kernel
theorem dL_acts_221 : decode cL_acts 221 = .ok (.iload 5, 2) := by decide +kernel
theorem dL_acts_223 : decode cL_acts 223 = .ok (.invokestatic 104, 3) := by decide +kernel
theorem dL_acts_226 : decode cL_acts 226 = .ok (.istore 7, 2) := by decide +kernel
theorem dL_acts_228 : decode cL_acts 228 = .ok (.goto 143, 3) := by decide +kernel
theorem dL_acts_231 : decode cL_acts 231 = .ok (.iload 5, 2) := by decide +kernel
theorem dL_acts_233 : decode cL_acts 233 = .ok (.ifCond .lt 12, 3) := by decide +kernel
theorem dL_acts_236 : decode cL_acts 236 = .ok (.aload_n 0, 1) := by decide +kernel
theorem dL_acts_237 : decode cL_acts 237 = .ok (.iload 5, 2) := by decide +kernel
theorem dL_acts_239 : decode cL_acts 239 = .ok (.invokevirtual 106, 3) := by decide +kernel
theorem dL_acts_242 : decode cL_acts 242 = .ok (.ifCond .ne 7, 3) := by decide +kernel
theorem dL_acts_245 : decode cL_acts 245 = .ok (.iconst 0, 1) := by decide +kernel
theorem dL_acts_246 : decode cL_acts 246 = .ok (.goto 4, 3) := by decide +kernel
theorem dL_acts_249 : decode cL_acts 249 = .ok (.iconst 1, 1) := by decide +kernel
theorem dL_acts_250 : decode cL_acts 250 = .ok (.istore 7, 2) := by decide +kernel
theorem dL_acts_252 : decode cL_acts 252 = .ok (.goto 119, 3) := by decide +kernel
theorem dL_acts_255 : decode cL_acts 255 = .ok (.aload_n 0, 1) := by decide +kernel
theorem dL_acts_256 : decode cL_acts 256 = .ok (.iload 5, 2) := by decide +kernel
theorem dL_acts_258 : decode cL_acts 258 = .ok (.invokestatic 110, 3) := by decide +kernel
theorem dL_acts_261 : decode cL_acts 261 = .ok (.istore 7, 2) := by decide +kernel
theorem dL_acts_263 : decode cL_acts 263 = .ok (.goto 108, 3) := by decide +kernel
theorem dL_acts_266 : decode cL_acts 266 = .ok (.aload_n 0, 1) := by decide +kernel
theorem dL_acts_267 : decode cL_acts 267 = .ok (.iload 5, 2) := by decide +kernel
theorem dL_acts_269 : decode cL_acts 269 = .ok (.invokestatic 112, 3) := by decide +kernel
theorem dL_acts_272 : decode cL_acts 272 = .ok (.istore 7, 2) := by decide +kernel
theorem dL_acts_274 : decode cL_acts 274 = .ok (.goto 97, 3) := by decide +kernel
theorem dL_acts_277 : decode cL_acts 277 = .ok (.iload 6, 2) := by decide +kernel
theorem dL_acts_279 : decode cL_acts 279 = .ok (.iconst 2, 1) := by decide +kernel
theorem dL_acts_280 : decode cL_acts 280 = .ok (.if_icmp .le 24, 3) := by decide +kernel
theorem dL_acts_283 : decode cL_acts 283 = .ok (.iload_n 3, 1) := by decide +kernel
theorem dL_acts_284 : decode cL_acts 284 = .ok (.iconst 5, 1) := by decide +kernel
theorem dL_acts_285 : decode cL_acts 285 = .ok (.irem, 1) := by decide +kernel
theorem dL_acts_286 : decode cL_acts 286 = .ok (.ifCond .ne 18, 3) := by decide +kernel
theorem dL_acts_289 : decode cL_acts 289 = .ok (.aload_n 0, 1) := by decide +kernel
theorem dL_acts_290 : decode cL_acts 290 = .ok (.aload_n 0, 1) := by decide +kernel
theorem dL_acts_291 : decode cL_acts 291 = .ok (.iload_n 3, 1) := by decide +kernel
theorem dL_acts_292 : decode cL_acts 292 = .ok (.iload 6, 2) := by decide +kernel
theorem dL_acts_294 : decode cL_acts 294 = .ok (.irem, 1) := by decide +kernel
theorem dL_acts_295 : decode cL_acts 295 = .ok (.invokevirtual 70, 3) := by decide +kernel
theorem dL_acts_298 : decode cL_acts 298 = .ok (.invokestatic 114, 3) := by decide +kernel
theorem dL_acts_301 : decode cL_acts 301 = .ok (.goto 4, 3) := by decide +kernel
theorem dL_acts_304 : decode cL_acts 304 = .ok (.iconst 0, 1) := by decide +kernel
theorem dL_acts_305 : decode cL_acts 305 = .ok (.istore 7, 2) := by decide +kernel
theorem dL_acts_307 : decode cL_acts 307 = .ok (.goto 64, 3) := by decide +kernel
theorem dL_acts_310 : decode cL_acts 310 = .ok (.iload 5, 2) := by decide +kernel
theorem dL_acts_312 : decode cL_acts 312 = .ok (.ifCond .ge 7, 3) := by decide +kernel
theorem dL_acts_315 : decode cL_acts 315 = .ok (.iconst 0, 1) := by decide +kernel
theorem dL_acts_316 : decode cL_acts 316 = .ok (.goto 53, 3) := by decide +kernel
theorem dL_acts_319 : decode cL_acts 319 = .ok (.aload_n 0, 1) := by decide +kernel
theorem dL_acts_320 : decode cL_acts 320 = .ok (.iload 5, 2) := by decide +kernel
theorem dL_acts_322 : decode cL_acts 322 = .ok (.iconst 0, 1) := by decide +kernel
theorem dL_acts_323 : decode cL_acts 323 = .ok (.bipush 9, 2) := by decide +kernel
theorem dL_acts_325 : decode cL_acts 325 = .ok (.aload_n 0, 1) := by decide +kernel
theorem dL_acts_326 : decode cL_acts 326 = .ok (.iload 5, 2) := by decide +kernel
theorem dL_acts_328 : decode cL_acts 328 = .ok (.invokevirtual 116, 3) := by decide +kernel
theorem dL_acts_331 : decode cL_acts 331 = .ok (.iload 4, 2) := by decide +kernel
theorem dL_acts_333 : decode cL_acts 333 = .ok (.iconst 3, 1) := by decide +kernel
theorem dL_acts_334 : decode cL_acts 334 = .ok (.irem, 1) := by decide +kernel
theorem dL_acts_335 : decode cL_acts 335 = .ok (.iadd, 1) := by decide +kernel
theorem dL_acts_336 : decode cL_acts 336 = .ok (.iconst 1, 1) := by decide +kernel
theorem dL_acts_337 : decode cL_acts 337 = .ok (.isub, 1) := by decide +kernel
theorem dL_acts_338 : decode cL_acts 338 = .ok (.invokestatic 119, 3) := by decide +kernel
theorem dL_acts_341 : decode cL_acts 341 = .ok (.invokestatic 124, 3) := by decide +kernel
theorem dL_acts_344 : decode cL_acts 344 = .ok (.iconst 0, 1) := by decide +kernel
theorem dL_acts_345 : decode cL_acts 345 = .ok (.bipush 19, 2) := by decide +kernel
theorem dL_acts_347 : decode cL_acts 347 = .ok (.aload_n 0, 1) := by decide +kernel
theorem dL_acts_348 : decode cL_acts 348 = .ok (.iload 5, 2) := by decide +kernel
theorem dL_acts_350 : decode cL_acts 350 = .ok (.invokevirtual 127, 3) := by decide +kernel
theorem dL_acts_353 : decode cL_acts 353 = .ok (.iload 4, 2) := by decide +kernel
theorem dL_acts_355 : decode cL_acts 355 = .ok (.iconst 2, 1) := by decide +kernel
theorem dL_acts_356 : decode cL_acts 356 = .ok (.idiv, 1) := by decide +kernel
theorem dL_acts_357 : decode cL_acts 357 = .ok (.iadd, 1) := by decide +kernel
theorem dL_acts_358 : decode cL_acts 358 = .ok (.iconst 1, 1) := by decide +kernel
theorem dL_acts_359 : decode cL_acts 359 = .ok (.isub, 1) := by decide +kernel
theorem dL_acts_360 : decode cL_acts 360 = .ok (.invokestatic 119, 3) := by decide +kernel
theorem dL_acts_363 : decode cL_acts 363 = .ok (.invokestatic 124, 3) := by decide +kernel
theorem dL_acts_366 : decode cL_acts 366 = .ok (.invokestatic 130, 3) := by decide +kernel
theorem dL_acts_369 : decode cL_acts 369 = .ok (.istore 7, 2) := by decide +kernel
theorem dL_acts_371 : decode cL_acts 371 = .ok (.return_, 1) := by decide +kernel
set_option maxRecDepth 20000 in
theorem ggL_build_L_some : GoodIn wsL_build wsL_some := goodIn_ca (goodIn_ca (goodIn_r _ [4, 5, 6, 3, 7] (by decide +kernel) (by decide +kernel)) (goodIn_sub (fun _ h => List.mem_cons_of_mem _ (List.mem_append_left _ (List.mem_append_left _ (List.mem_append_left _ (List.mem_append_left _ (List.mem_append_left _ (List.mem_append_right _ h))))))) (by decide +kernel))) (goodIn_sub (fun _ h => List.mem_cons_of_mem _ (List.mem_append_left _ (List.mem_append_left _ (List.mem_append_left _ (List.mem_append_left _ (List.mem_append_right _ h)))))) (by decide +kernel))
set_option maxRecDepth 20000 in
theorem gL_build_L_some : GoodIn wsL_build (va_wsS RL 79 yL_some wsL_some) := goodIn_app (goodIn_of _ (by decide +kernel)) ggL_build_L_some
set_option maxRecDepth 20000 in
theorem ggL_build_L_addTrack : GoodIn wsL_build wsL_addTrack := goodIn_ca (goodIn_ca (goodIn_ca (goodIn_ca (a := []) (goodIn_r _ [10] (by decide +kernel) (by decide +kernel)) (goodIn_app (goodIn_app (goodIn_app (goodIn_app (goodIn_app (goodIn_app (goodIn_app (goodIn_r _ [11, 12, 13, 14, 15, 16, 17, 18, 19, 20, 21, 22, 23, 24, 25, 26, 27, 28, 29, 30, 31, 32, 33, 34] (by decide +kernel) (by decide +kernel)) (goodIn_app (goodIn_r _ [35, 36, 37, 38, 39, 40, 41, 42, 43, 44, 45, 46, 47, 48, 49, 50, 51, 52, 53, 54, 55, 56, 57, 58] (by decide +kernel) (by decide +kernel)) (goodIn_app (goodIn_r _ [59, 60, 61, 62, 63, 64, 65, 66, 67, 68, 69, 70, 71, 72, 73, 74, 75, 76, 77, 78, 79, 80, 81, 82] (by decide +kernel) (by decide +kernel)) (goodIn_app (goodIn_r _ [83, 84, 85, 86, 87, 88, 89, 90, 91, 92, 93, 94, 95, 96, 97, 98, 99, 100, 101, 102, 103, 104, 105, 106] (by decide +kernel) (by decide +kernel)) (goodIn_r _ [107, 108, 109, 110, 111, 112, 113, 114] (by decide +kernel) (by decide +kernel)))))) (goodIn_r _ [403, 404, 405, 406, 407, 408, 409, 410, 411, 412] (by decide +kernel) (by decide +kernel))) (goodIn_r _ [413, 414, 415] (by decide +kernel) (by decide +kernel))) (goodIn_r _ [416, 417, 418, 419, 420, 421, 422] (by decide +kernel) (by decide +kernel))) (goodIn_r _ [423, 424, 425] (by decide +kernel) (by decide +kernel))) (goodIn_r _ [426, 427] (by decide +kernel) (by decide +kernel))) (goodIn_r _ [428, 429, 430, 431, 432, 433, 434, 435, 436, 437] (by decide +kernel) (by decide +kernel)))) (goodIn_sub (fun _ h => List.mem_cons_of_mem _ (List.mem_append_left _ (List.mem_append_left _ (List.mem_append_left _ (List.mem_append_right _ h))))) (by decide +kernel))) (goodIn_sub (fun _ h => List.mem_cons_of_mem _ (List.mem_append_left _ (List.mem_append_left _ (List.mem_append_right _ h)))) (by decide +kernel))) (goodIn_sub (fun _ h => List.mem_cons_of_mem _ (List.mem_append_left _ (List.mem_append_right _ h))) (by decide +kernel))
set_option maxRecDepth 20000 in
theorem gL_build_L_addTrack : GoodIn wsL_build (va_wsS RL 83 yL_addTrack wsL_addTrack) := goodIn_app (goodIn_of _ (by decide +kernel)) ggL_build_L_addTrack
set_option maxRecDepth 20000 in
theorem ggL_build_L_addPrint : GoodIn wsL_build wsL_addPrint := goodIn_ca (goodIn_ca (goodIn_ca (goodIn_ca (goodIn_ca (a := []) (goodIn_r _ [117] (by decide +kernel) (by decide +kernel)) (goodIn_app (goodIn_app (goodIn_app (goodIn_app (goodIn_app (goodIn_app (goodIn_app (goodIn_r _ [118, 11, 12, 119, 120, 121, 16, 122, 18, 19, 20, 21, 123, 124, 125, 126, 127, 128, 129, 130, 131, 28, 132, 37] (by decide +kernel) (by decide +kernel)) (goodIn_app (goodIn_r _ [38, 103, 133, 134, 135, 136, 137, 138, 139, 140, 141, 142, 143, 144, 145, 146, 147, 148, 149, 150, 151, 30, 31, 32] (by decide +kernel) (by decide +kernel)) (goodIn_app (goodIn_r _ [152, 153, 154, 155, 156, 157, 158, 159, 160, 70, 161, 162, 39, 40, 41, 42, 43, 44, 45, 46, 47, 163, 164, 165] (by decide +kernel) (by decide +kernel)) (goodIn_app (goodIn_r _ [166, 167, 168, 169, 170, 87, 171, 89, 91, 172, 173, 174, 175, 71, 176, 177, 178, 179, 180, 181, 182, 183, 184, 48] (by decide +kernel) (by decide +kernel)) (goodIn_app (goodIn_r _ [49, 50, 51, 52, 53, 54, 55, 56, 57, 58, 59, 60, 61, 62, 63, 64, 65, 66, 67, 68, 69, 72, 73, 74] (by decide +kernel) (by decide +kernel)) (goodIn_app (goodIn_r _ [75, 76, 77, 78, 79, 80, 81, 82, 83, 84, 85, 86, 88, 90, 92, 93, 94, 95, 96, 97, 98, 185, 186, 187] (by decide +kernel) (by decide +kernel)) (goodIn_r _ [188, 189, 190, 191, 192, 193, 194, 195, 196, 197, 105, 106, 107, 108, 109, 110, 111, 112, 113, 114] (by decide +kernel) (by decide +kernel)))))))) (goodIn_r _ [403, 404, 405, 406, 407, 408, 409, 410, 411, 412] (by decide +kernel) (by decide +kernel))) (goodIn_r _ [416, 417, 418, 419, 420, 421, 422] (by decide +kernel) (by decide +kernel))) (goodIn_r _ [423, 424, 425] (by decide +kernel) (by decide +kernel))) (goodIn_r _ [413, 414, 415] (by decide +kernel) (by decide +kernel))) (goodIn_r _ [428, 429, 430, 431, 432, 433, 434, 435, 436, 437] (by decide +kernel) (by decide +kernel))) (goodIn_r _ [426, 427] (by decide +kernel) (by decide +kernel)))) (goodIn_sub (fun _ h => List.mem_cons_of_mem _ (List.mem_append_left _ (List.mem_append_left _ (List.mem_append_left _ (List.mem_append_right _ h))))) (by decide +kernel))) (goodIn_sub (fun _ h => List.mem_cons_of_mem _ (List.mem_append_right _ h)) (by decide +kernel))) (goodIn_sub (fun _ h => List.mem_cons_of_mem _ (List.mem_append_left _ (List.mem_append_left _ (List.mem_append_right _ h)))) (by decide +kernel))) (goodIn_sub (fun _ h => List.mem_cons_of_mem _ (List.mem_append_left _ (List.mem_append_right _ h))) (by decide +kernel))
set_option maxRecDepth 20000 in
theorem gL_build_L_addPrint : GoodIn wsL_build (va_wsS RL 86 yL_addPrint wsL_addPrint) := goodIn_app (goodIn_of _ (by decide +kernel)) ggL_build_L_addPrint
set_option maxRecDepth 20000 in
theorem ggL_build_L_acts : GoodIn wsL_build wsL_acts := goodIn_ca (goodIn_ca (goodIn_ca (goodIn_ca (goodIn_ca (goodIn_ca (goodIn_ca (a := []) (goodIn_r _ [200] (by decide +kernel) (by decide +kernel)) (goodIn_app (goodIn_app (goodIn_app (goodIn_app (goodIn_app (goodIn_app (goodIn_app (goodIn_app (goodIn_r _ [201, 63, 64, 65, 202, 203, 204, 1, 2, 3, 4, 5, 6, 7, 205, 206, 207, 208, 209, 210, 16, 211, 20, 212] (by decide +kernel) (by decide +kernel)) (goodIn_app (goodIn_r _ [154, 155, 28, 156, 157, 158, 159, 160, 70, 161, 162, 213, 214, 215, 216, 113, 114, 217, 218, 219, 220, 221, 222, 223] (by decide +kernel) (by decide +kernel)) (goodIn_app (goodIn_r _ [192, 167, 152, 224, 225, 226, 227, 228, 34, 35, 36, 37, 38, 8, 9, 10, 11, 12, 13, 14, 15, 17, 18, 19] (by decide +kernel) (by decide +kernel)) (goodIn_app (goodIn_r _ [21, 22, 23, 24, 25, 26, 27, 29, 30, 31, 32, 33, 39, 40, 41, 42, 43, 44, 45, 46, 47, 48, 49, 50] (by decide +kernel) (by decide +kernel)) (goodIn_app (goodIn_r _ [51, 52, 53, 54, 55, 56, 57, 58, 59, 60, 61, 62, 66, 67, 68, 69, 71, 72, 73, 74, 75, 76, 77, 78] (by decide +kernel) (by decide +kernel)) (goodIn_app (goodIn_r _ [79, 80, 81, 82, 83, 84, 85, 86, 87, 88, 89, 90, 91, 92, 93, 94, 95, 96, 97, 98, 99, 100, 101, 102] (by decide +kernel) (by decide +kernel)) (goodIn_app (goodIn_r _ [103, 104, 105, 106, 107, 108, 109, 110, 111, 112, 229, 230, 231, 232, 233, 234, 235, 236, 237, 238, 239, 240, 241, 242] (by decide +kernel) (by decide +kernel)) (goodIn_app (goodIn_r _ [243, 244, 245, 246, 247, 248, 249, 176, 177, 178, 179, 250, 251, 252, 253, 254, 255, 256, 257, 258, 259, 260, 261, 262] (by decide +kernel) (by decide +kernel)) (goodIn_app (goodIn_r _ [263, 264, 265, 266, 267, 268, 269, 270, 271, 272, 169, 170, 171, 273, 274, 275, 276, 189, 168, 277, 278, 279, 280, 281] (by decide +kernel) (by decide +kernel)) (goodIn_app (goodIn_r _ [282, 283, 284, 285, 130, 131, 132, 286, 287, 288, 289, 290, 291, 292, 293, 294, 295, 296, 297, 298, 299, 300, 301, 302] (by decide +kernel) (by decide +kernel)) (goodIn_app (goodIn_r _ [303, 304, 305, 306, 307, 194, 195, 196, 197, 115, 116, 117, 118, 119, 120, 121, 122, 123, 124, 125, 126, 127, 128, 129] (by decide +kernel) (by decide +kernel)) (goodIn_app (goodIn_r _ [133, 134, 135, 136, 137, 138, 139, 140, 141, 142, 143, 144, 145, 146, 147, 148, 149, 150, 151, 153, 163, 164, 165, 166] (by decide +kernel) (by decide +kernel)) (goodIn_app (goodIn_r _ [172, 173, 174, 175, 180, 181, 182, 183, 184, 185, 186, 187, 188, 190, 191, 193, 308, 309, 310, 311, 312, 313, 314, 315] (by decide +kernel) (by decide +kernel)) (goodIn_app (goodIn_r _ [316, 317, 318, 319, 320, 321, 322, 323, 324, 325, 326, 327, 328, 329, 330, 331, 332, 333, 334, 335, 336, 337, 338, 339] (by decide +kernel) (by decide +kernel)) (goodIn_app (goodIn_r _ [340, 341, 342, 343, 344, 345, 346, 347, 348, 349, 350, 351, 352, 353, 354, 355, 356, 357, 358, 359, 360, 361, 362, 363] (by decide +kernel) (by decide +kernel)) (goodIn_app (goodIn_r _ [364, 365, 366, 367, 368, 369, 370, 371, 372, 373, 374, 375, 376, 377, 378, 379, 380, 381, 382, 383, 384, 385, 386, 387] (by decide +kernel) (by decide +kernel)) (goodIn_r _ [388, 389, 390, 391, 392, 393, 394, 395, 396, 397, 398, 399, 400, 401, 402] (by decide +kernel) (by decide +kernel)))))))))))))))))) (goodIn_r _ [403, 404, 405, 406, 407, 408, 409, 410, 411, 412] (by decide +kernel) (by decide +kernel))) (goodIn_r _ [416, 417, 418, 419, 420, 421, 422] (by decide +kernel) (by decide +kernel))) (goodIn_r _ [428, 429, 430, 431, 432, 433, 434, 435, 436, 437] (by decide +kernel) (by decide +kernel))) (goodIn_r _ [423, 424, 425] (by decide +kernel) (by decide +kernel))) (goodIn_r _ [413, 414, 415] (by decide +kernel) (by decide +kernel))) (goodIn_r _ [426, 427] (by decide +kernel) (by decide +kernel))) (goodIn_r _ [438] (by decide +kernel) (by decide +kernel)))) (goodIn_sub (fun _ h => List.mem_cons_of_mem _ (List.mem_append_left _ (List.mem_append_left _ (List.mem_append_left _ (List.mem_append_left _ (List.mem_append_left _ (List.mem_append_right _ h))))))) (by decide +kernel))) (goodIn_sub (fun _ h => List.mem_cons_of_mem _ (List.mem_append_left _ (List.mem_append_left _ (List.mem_append_left _ (List.mem_append_left _ (List.mem_append_right _ h)))))) (by decide +kernel))) (goodIn_sub (fun _ h => List.mem_cons_of_mem _ (List.mem_append_left _ (List.mem_append_right _ h))) (by decide +kernel))) (goodIn_sub (fun _ h => List.mem_cons_of_mem _ (List.mem_append_left _ (List.mem_append_left _ (List.mem_append_left _ (List.mem_append_right _ h))))) (by decide +kernel))) (goodIn_sub (fun _ h => List.mem_cons_of_mem _ (List.mem_append_left _ (List.mem_append_left _ (List.mem_append_right _ h)))) (by decide +kernel))) (goodIn_sub (fun _ h => List.mem_cons_of_mem _ (List.mem_append_right _ h)) (by decide +kernel))
set_option maxRecDepth 20000 in
theorem gL_build_L_acts : GoodIn wsL_build (va_wsS RL 89 yL_acts wsL_acts) := goodIn_app (goodIn_of _ (by decide +kernel)) ggL_build_L_acts
theorem dL_build_0 : decode cL_build 0 = .ok (.iconst 1, 1) := by decide +kernel
theorem dL_build_1 : decode cL_build 1 = .ok (.aload_n 1, 1) := by decide +kernel
theorem dL_build_2 : decode cL_build 2 = .ok (.iconst 0, 1) := by decide +kernel
theorem dL_build_3 : decode cL_build 3 = .ok (.iconst 3, 1) := by decide +kernel
theorem dL_build_4 : decode cL_build 4 = .ok (.invokestatic 79, 3) := by decide +kernel
theorem dL_build_7 : decode cL_build 7 = .ok (.iadd, 1) := by decide +kernel
theorem dL_build_8 : decode cL_build 8 = .ok (.istore_n 3, 1) := by decide +kernel
theorem dL_build_9 : decode cL_build 9 = .ok (.iconst 0, 1) := by decide +kernel
theorem dL_build_10 : decode cL_build 10 = .ok (.istore 4, 2) := by decide +kernel
theorem dL_build_12 : decode cL_build 12 = .ok (.iload 4, 2) := by decide +kernel
theorem dL_build_14 : decode cL_build 14 = .ok (.iload_n 3, 1) := by decide +kernel
theorem dL_build_15 : decode cL_build 15 = .ok (.if_icmp .ge 26, 3) := by decide +kernel
theorem dL_build_18 : decode cL_build 18 = .ok (.aload_n 0, 1) := by decide +kernel
theorem dL_build_19 : decode cL_build 19 = .ok (.iconst 1, 1) := by decide +kernel
theorem dL_build_20 : decode cL_build 20 = .ok (.aload_n 1, 1) := by decide +kernel
theorem dL_build_21 : decode cL_build 21 = .ok (.iconst 1, 1) := by decide +kernel
theorem dL_build_22 : decode cL_build 22 = .ok (.iload 4, 2) := by decide +kernel
theorem dL_build_24 : decode cL_build 24 = .ok (.iadd, 1) := by decide +kernel
theorem dL_build_25 : decode cL_build 25 = .ok (.bipush 9, 2) := by decide +kernel
theorem dL_build_27 : decode cL_build 27 = .ok (.invokestatic 79, 3) := by decide +kernel
theorem dL_build_30 : decode cL_build 30 = .ok (.iadd, 1) := by decide +kernel
theorem dL_build_31 : decode cL_build 31 = .ok (.invokestatic 83, 3) := by decide +kernel
theorem dL_build_34 : decode cL_build 34 = .ok (.istore_n 2, 1) := by decide +kernel
theorem dL_build_35 : decode cL_build 35 = .ok (.iinc 4 1, 3) := by decide +kernel
theorem dL_build_38 : decode cL_build 38 = .ok (.goto (-26), 3) := by decide +kernel
theorem dL_build_41 : decode cL_build 41 = .ok (.iconst 0, 1) := by decide +kernel
theorem dL_build_42 : decode cL_build 42 = .ok (.istore 4, 2) := by decide +kernel
theorem dL_build_44 : decode cL_build 44 = .ok (.iload 4, 2) := by decide +kernel
theorem dL_build_46 : decode cL_build 46 = .ok (.bipush 9, 2) := by decide +kernel
theorem dL_build_48 : decode cL_build 48 = .ok (.if_icmp .ge 88, 3) := by decide +kernel
theorem dL_build_51 : decode cL_build 51 = .ok (.aload_n 0, 1) := by decide +kernel
theorem dL_build_52 : decode cL_build 52 = .ok (.aload_n 1, 1) := by decide +kernel
theorem dL_build_53 : decode cL_build 53 = .ok (.iconst 5, 1) := by decide +kernel
theorem dL_build_54 : decode cL_build 54 = .ok (.iload 4, 2) := by decide +kernel
theorem dL_build_56 : decode cL_build 56 = .ok (.iadd, 1) := by decide +kernel
theorem dL_build_57 : decode cL_build 57 = .ok (.iload_n 3, 1) := by decide +kernel
theorem dL_build_58 : decode cL_build 58 = .ok (.invokestatic 79, 3) := by decide +kernel
theorem dL_build_61 : decode cL_build 61 = .ok (.aload_n 1, 1) := by decide +kernel
theorem dL_build_62 : decode cL_build 62 = .ok (.bipush 15, 2) := by decide +kernel
theorem dL_build_64 : decode cL_build 64 = .ok (.iload 4, 2) := by decide +kernel
theorem dL_build_66 : decode cL_build 66 = .ok (.iadd, 1) := by decide +kernel
theorem dL_build_67 : decode cL_build 67 = .ok (.bipush 40, 2) := by decide +kernel
theorem dL_build_69 : decode cL_build 69 = .ok (.invokestatic 79, 3) := by decide +kernel
theorem dL_build_72 : decode cL_build 72 = .ok (.iconst 2, 1) := by decide +kernel
theorem dL_build_73 : decode cL_build 73 = .ok (.aload_n 1, 1) := by decide +kernel
theorem dL_build_74 : decode cL_build 74 = .ok (.bipush 25, 2) := by decide +kernel
theorem dL_build_76 : decode cL_build 76 = .ok (.iload 4, 2) := by decide +kernel
theorem dL_build_78 : decode cL_build 78 = .ok (.iadd, 1) := by decide +kernel
theorem dL_build_79 : decode cL_build 79 = .ok (.iconst 5, 1) := by decide +kernel
theorem dL_build_80 : decode cL_build 80 = .ok (.invokestatic 79, 3) := by decide +kernel
theorem dL_build_83 : decode cL_build 83 = .ok (.iadd, 1) := by decide +kernel
theorem dL_build_84 : decode cL_build 84 = .ok (.aload_n 1, 1) := by decide +kernel
theorem dL_build_85 : decode cL_build 85 = .ok (.bipush 35, 2) := by decide +kernel
theorem dL_build_87 : decode cL_build 87 = .ok (.iload 4, 2) := by decide +kernel
theorem dL_build_89 : decode cL_build 89 = .ok (.iadd, 1) := by decide +kernel
theorem dL_build_90 : decode cL_build 90 = .ok (.bipush 12, 2) := by decide +kernel
theorem dL_build_92 : decode cL_build 92 = .ok (.invokestatic 79, 3) := by decide +kernel
theorem dL_build_95 : decode cL_build 95 = .ok (.aload_n 1, 1) := by decide +kernel
theorem dL_build_96 : decode cL_build 96 = .ok (.bipush 45, 2) := by decide +kernel
theorem dL_build_98 : decode cL_build 98 = .ok (.iload 4, 2) := by decide +kernel
theorem dL_build_100 : decode cL_build 100 = .ok (.iadd, 1) := by decide +kernel
theorem dL_build_101 : decode cL_build 101 = .ok (.iconst 2, 1) := by decide +kernel
theorem dL_build_102 : decode cL_build 102 = .ok (.invokestatic 79, 3) := by decide +kernel
theorem dL_build_105 : decode cL_build 105 = .ok (.ifCond .ne 7, 3) := by decide +kernel
theorem dL_build_108 : decode cL_build 108 = .ok (.iconst 1, 1) := by decide +kernel
theorem dL_build_109 : decode cL_build 109 = .ok (.goto 4, 3) := by decide +kernel
theorem dL_build_112 : decode cL_build 112 = .ok (.iconst 0, 1) := by decide +kernel
theorem dL_build_113 : decode cL_build 113 = .ok (.iconst 1, 1) := by decide +kernel
theorem dL_build_114 : decode cL_build 114 = .ok (.aload_n 1, 1) := by decide +kernel
theorem dL_build_115 : decode cL_build 115 = .ok (.bipush 55, 2) := by decide +kernel
theorem dL_build_117 : decode cL_build 117 = .ok (.iload 4, 2) := by decide +kernel
theorem dL_build_119 : decode cL_build 119 = .ok (.iadd, 1) := by decide +kernel
theorem dL_build_120 : decode cL_build 120 = .ok (.bipush 9, 2) := by decide +kernel
theorem dL_build_122 : decode cL_build 122 = .ok (.invokestatic 79, 3) := by decide +kernel
theorem dL_build_125 : decode cL_build 125 = .ok (.iadd, 1) := by decide +kernel
theorem dL_build_126 : decode cL_build 126 = .ok (.invokestatic 86, 3) := by decide +kernel
theorem dL_build_129 : decode cL_build 129 = .ok (.istore_n 2, 1) := by decide +kernel
theorem dL_build_130 : decode cL_build 130 = .ok (.iinc 4 1, 3) := by decide +kernel
theorem dL_build_133 : decode cL_build 133 = .ok (.goto (-89), 3) := by decide +kernel
theorem dL_build_136 : decode cL_build 136 = .ok (.iconst 0, 1) := by decide +kernel
theorem dL_build_137 : decode cL_build 137 = .ok (.istore 4, 2) := by decide +kernel
theorem dL_build_139 : decode cL_build 139 = .ok (.iload 4, 2) := by decide +kernel
theorem dL_build_141 : decode cL_build 141 = .ok (.bipush 9, 2) := by decide +kernel
theorem dL_build_143 : decode cL_build 143 = .ok (.if_icmp .ge 21, 3) := by decide +kernel
theorem dL_build_146 : decode cL_build 146 = .ok (.aload_n 0, 1) := by decide +kernel
theorem dL_build_147 : decode cL_build 147 = .ok (.aload_n 1, 1) := by decide +kernel
theorem dL_build_148 : decode cL_build 148 = .ok (.bipush 65, 2) := by decide +kernel
theorem dL_build_150 : decode cL_build 150 = .ok (.iconst 4, 1) := by decide +kernel
theorem dL_build_151 : decode cL_build 151 = .ok (.iload 4, 2) := by decide +kernel
theorem dL_build_153 : decode cL_build 153 = .ok (.imul, 1) := by decide +kernel
theorem dL_build_154 : decode cL_build 154 = .ok (.iadd, 1) := by decide +kernel
theorem dL_build_155 : decode cL_build 155 = .ok (.invokestatic 89, 3) := by decide +kernel
theorem dL_build_158 : decode cL_build 158 = .ok (.iinc 4 1, 3) := by decide +kernel
theorem dL_build_161 : decode cL_build 161 = .ok (.goto (-22), 3) := by decide +kernel
theorem dL_build_164 : decode cL_build 164 = .ok (.return_, 1) := by decide +kernel

