set_option maxRecDepth 20000 in
theorem ggL_law_X4_init : GoodIn wsL_law wsX4_init := goodIn_r _ [10, 11, 12, 13, 14, 15, 16, 17, 18, 19, 20, 21, 22, 23, 24, 25, 3, 26, 27, 28, 29, 30, 31, 32, 33, 34, 35, 36, 37, 38, 39, 40, 41, 42, 43, 44, 45, 46, 47, 48, 49, 50, 51, 52, 53, 54, 55, 56, 57, 58, 59, 60, 61, 62, 63, 64, 65, 66, 67, 68, 69, 2, 70, 71, 72, 73, 74, 75, 76, 77, 78, 79, 80, 81, 82, 83, 84, 85, 86, 87, 88, 89, 90, 91, 92, 93, 94, 95, 471, 472, 473, 474, 475, 469, 470, 476, 477, 478, 479, 480, 481, 482, 483, 484, 485, 486, 487, 488, 489, 490, 491, 492] (by decide +kernel) (by decide +kernel)
set_option maxRecDepth 20000 in
theorem gL_law_X4_init : GoodIn wsL_law (wsX4_init) := ggL_law_X4_init
set_option maxRecDepth 20000 in
theorem x_ggL_law_L_build_h : GoodIn wsL_law [.code yL_build cL_build 5 (some (.object "CryptSumsLaw$Sim"))] := goodIn_sub (fun w h => by rw [List.mem_singleton.mp h]; exact List.mem_of_getElem? (i := 99) rfl) (by decide +kernel)
set_option maxRecDepth 20000 in
theorem x_ggL_law_L_build_r1 : GoodIn wsL_law wsL_build_r1 := goodIn_sub (by decide +kernel) (by decide +kernel)
set_option maxRecDepth 20000 in
theorem x_ggL_law_L_build_r2 : GoodIn wsL_law wsL_build_r2 := by
  have e : wsL_build_r2 = wsL_build_r2.take 3 ++ ([Cond.codeWith yL_act cL_act 12 (some .boolean) [(572, 594, 595, 58)]] ++ wsL_build_r2.drop 4) := rfl
  rw [e]
  exact goodIn_app (goodIn_sub (by decide +kernel) (by decide +kernel)) (goodIn_app (goodIn_sub (fun w h => by rw [List.mem_singleton.mp h]; exact List.mem_of_getElem? (i := 123) rfl) (by decide +kernel)) (goodIn_sub (by decide +kernel) (by decide +kernel)))
set_option maxRecDepth 20000 in
theorem x_ggL_law_L_build_r3 : GoodIn wsL_law wsL_build_r3 := goodIn_sub (by decide +kernel) (by decide +kernel)
set_option maxRecDepth 20000 in
theorem x_ggL_law_L_build_r4 : GoodIn wsL_law wsL_build_r4 := goodIn_sub (by decide +kernel) (by decide +kernel)
set_option maxRecDepth 20000 in
theorem x_ggL_law_L_build_r5 : GoodIn wsL_law wsL_build_r5 := goodIn_sub (by decide +kernel) (by decide +kernel)
set_option maxRecDepth 20000 in
theorem x_ggL_law_L_build_r6 : GoodIn wsL_law wsL_build_r6 := goodIn_sub (by decide +kernel) (by decide +kernel)
set_option maxRecDepth 20000 in
theorem x_ggL_law_L_build_r7 : GoodIn wsL_law wsL_build_r7 := goodIn_sub (by decide +kernel) (by decide +kernel)
set_option maxRecDepth 20000 in
theorem x_ggL_law_L_build_r8 : GoodIn wsL_law wsL_build_r8 := goodIn_sub (by decide +kernel) (by decide +kernel)
set_option maxRecDepth 20000 in
theorem x_ggL_law_L_build_X5 : GoodIn wsL_law wsX50 := goodIn_sub (fun w h => inlX5 w h) (by decide +kernel)
set_option maxRecDepth 20000 in
theorem x_ggL_law_L_build_X4 : GoodIn wsL_law wsX40 := goodIn_sub (fun w h => inlX4 w h) (by decide +kernel)
set_option maxRecDepth 20000 in
theorem x_ggL_law_L_build_X3 : GoodIn wsL_law wsX30 := goodIn_sub (fun w h => inlX3 w h) (by decide +kernel)
set_option maxRecDepth 20000 in
theorem x_ggL_law_L_build_X1 : GoodIn wsL_law wsX10 := goodIn_sub (fun w h => inlX1 w h) (by decide +kernel)
set_option maxRecDepth 20000 in
theorem x_ggL_law_L_build_X0 : GoodIn wsL_law wsX00 := goodIn_sub (fun w h => inlX0 w h) (by decide +kernel)
set_option maxRecDepth 20000 in
theorem ggL_law_L_build : GoodIn wsL_law wsL_build := goodIn_ca (goodIn_ca (goodIn_ca (goodIn_app (a := [.code yL_build cL_build 5 (some (.object "CryptSumsLaw$Sim"))]) x_ggL_law_L_build_h (goodIn_app (goodIn_app (goodIn_app (goodIn_app (goodIn_app (goodIn_app x_ggL_law_L_build_r1 (goodIn_app x_ggL_law_L_build_r2 (goodIn_app x_ggL_law_L_build_r3 (goodIn_app x_ggL_law_L_build_r4 (goodIn_app x_ggL_law_L_build_r5 (goodIn_app x_ggL_law_L_build_r6 (goodIn_app x_ggL_law_L_build_r7 x_ggL_law_L_build_r8))))))) x_ggL_law_L_build_X5) x_ggL_law_L_build_X4) x_ggL_law_L_build_X3) x_ggL_law_L_build_X1) x_ggL_law_L_build_X0)) (goodIn_sub (fun _ h => List.mem_append_left _ (List.mem_append_left _ (List.mem_append_right _ h))) (by decide +kernel))) (goodIn_sub (fun _ h => List.mem_append_left _ (List.mem_append_right _ h)) (by decide +kernel))) (goodIn_sub (fun _ h => List.mem_append_right _ h) (by decide +kernel))
set_option maxRecDepth 20000 in
theorem gL_law_L_build : GoodIn wsL_law (va_wsS RL 71 yL_build wsL_build) := goodIn_app (goodIn_of _ (by decide +kernel)) ggL_law_L_build
set_option maxRecDepth 20000 in
theorem ggL_law_L_cell : GoodIn wsL_law wsL_cell := goodIn_r _ [115, 116] (by decide +kernel) (by decide +kernel)
set_option maxRecDepth 20000 in
theorem gL_law_L_cell : GoodIn wsL_law (va_wsS RL 61 yL_cell wsL_cell) := goodIn_app (goodIn_of _ (by decide +kernel)) ggL_law_L_cell
set_option maxRecDepth 20000 in
theorem x_ggL_law_L_act_h : GoodIn wsL_law [.codeWith yL_act cL_act 12 (some .boolean) [(572, 594, 595, 58)]] := goodIn_sub (fun w h => by rw [List.mem_singleton.mp h]; exact List.mem_of_getElem? (i := 123) rfl) (by decide +kernel)
set_option maxRecDepth 20000 in
theorem x_ggL_law_L_act_r1 : GoodIn wsL_law wsL_act_r1 := goodIn_sub (by decide +kernel) (by decide +kernel)
set_option maxRecDepth 20000 in
theorem x_ggL_law_L_act_r2 : GoodIn wsL_law wsL_act_r2 := goodIn_sub (by decide +kernel) (by decide +kernel)
set_option maxRecDepth 20000 in
theorem x_ggL_law_L_act_r3 : GoodIn wsL_law wsL_act_r3 := goodIn_sub (by decide +kernel) (by decide +kernel)
set_option maxRecDepth 20000 in
theorem x_ggL_law_L_act_r4 : GoodIn wsL_law wsL_act_r4 := goodIn_sub (by decide +kernel) (by decide +kernel)
set_option maxRecDepth 20000 in
theorem x_ggL_law_L_act_r5 : GoodIn wsL_law wsL_act_r5 := goodIn_sub (by decide +kernel) (by decide +kernel)
set_option maxRecDepth 20000 in
theorem x_ggL_law_L_act_r6 : GoodIn wsL_law wsL_act_r6 := goodIn_sub (by decide +kernel) (by decide +kernel)
set_option maxRecDepth 20000 in
theorem x_ggL_law_L_act_r7 : GoodIn wsL_law wsL_act_r7 := goodIn_sub (by decide +kernel) (by decide +kernel)
set_option maxRecDepth 20000 in
theorem x_ggL_law_L_act_X5 : GoodIn wsL_law wsX50 := goodIn_sub (fun w h => inlX5 w h) (by decide +kernel)
set_option maxRecDepth 20000 in
theorem x_ggL_law_L_act_X4 : GoodIn wsL_law wsX40 := goodIn_sub (fun w h => inlX4 w h) (by decide +kernel)
set_option maxRecDepth 20000 in
theorem x_ggL_law_L_act_X3 : GoodIn wsL_law wsX30 := goodIn_sub (fun w h => inlX3 w h) (by decide +kernel)
set_option maxRecDepth 20000 in
theorem x_ggL_law_L_act_X1 : GoodIn wsL_law wsX10 := goodIn_sub (fun w h => inlX1 w h) (by decide +kernel)
set_option maxRecDepth 20000 in
theorem x_ggL_law_L_act_X0 : GoodIn wsL_law wsX00 := goodIn_sub (fun w h => inlX0 w h) (by decide +kernel)
set_option maxRecDepth 20000 in
theorem ggL_law_L_act : GoodIn wsL_law wsL_act := goodIn_ca (goodIn_ca (goodIn_ca (goodIn_app (a := [.codeWith yL_act cL_act 12 (some .boolean) [(572, 594, 595, 58)]]) x_ggL_law_L_act_h (goodIn_app (goodIn_app (goodIn_app (goodIn_app (goodIn_app (goodIn_app x_ggL_law_L_act_r1 (goodIn_app x_ggL_law_L_act_r2 (goodIn_app x_ggL_law_L_act_r3 (goodIn_app x_ggL_law_L_act_r4 (goodIn_app x_ggL_law_L_act_r5 (goodIn_app x_ggL_law_L_act_r6 x_ggL_law_L_act_r7)))))) x_ggL_law_L_act_X5) x_ggL_law_L_act_X4) x_ggL_law_L_act_X3) x_ggL_law_L_act_X1) x_ggL_law_L_act_X0)) (goodIn_sub (fun _ h => List.mem_append_left _ (List.mem_append_left _ (List.mem_append_right _ h))) (by decide +kernel))) (goodIn_sub (fun _ h => List.mem_append_left _ (List.mem_append_right _ h)) (by decide +kernel))) (goodIn_sub (fun _ h => List.mem_append_right _ h) (by decide +kernel))
set_option maxRecDepth 20000 in
theorem gL_law_L_act : GoodIn wsL_law (va_wsS RL 66 yL_act wsL_act) := goodIn_app (goodIn_of _ (by decide +kernel)) ggL_law_L_act
set_option maxRecDepth 20000 in
theorem ggL_law_X4_count : GoodIn wsL_law wsX4_count := goodIn_ca (goodIn_r _ [235, 154, 155, 17, 236, 237, 238, 16, 239, 67, 33, 34, 160, 143, 144, 145, 68, 240, 241, 242, 243, 165, 166, 167, 168, 29, 83, 2, 84, 244, 245, 246, 247, 248, 249, 250, 251, 252, 253, 254, 32, 255, 60, 256, 257, 258, 259, 260, 261, 262, 263, 59, 264, 265, 266, 267, 268, 269, 270, 271, 61, 272, 58, 273, 274, 275, 276, 277, 278, 57, 62, 279, 280, 281, 282, 283, 284, 285, 286, 287, 288, 289, 290, 291, 292, 28, 293, 40, 294, 295, 296, 297, 298, 299, 300, 301, 302, 303, 304, 305, 306, 307, 308, 309, 310, 469, 470, 471, 472, 473, 474, 475, 484, 485, 486, 487, 488, 489, 490, 491, 492, 483] (by decide +kernel) (by decide +kernel)) (goodIn_sub (fun _ h => List.mem_append_left _ (List.mem_append_right _ h)) (by decide +kernel))
set_option maxRecDepth 20000 in
theorem gL_law_X4_count : GoodIn wsL_law (wsV RL 75 RX4 yX4_count wsX4_count) := goodIn_app (goodIn_of _ (by decide +kernel)) ggL_law_X4_count
set_option maxRecDepth 20000 in
theorem ggL_law_X4_stone : GoodIn wsL_law wsX4_stone := goodIn_ca (goodIn_r _ [314, 17, 150, 151, 152, 2, 153, 154, 155, 156, 157, 158, 16, 159, 160, 143, 144, 145, 67, 68, 224, 225, 226, 227, 29, 83, 84, 469, 470, 471, 472, 473, 474, 475] (by decide +kernel) (by decide +kernel)) (goodIn_sub (fun _ h => List.mem_append_left _ (List.mem_append_right _ h)) (by decide +kernel))
set_option maxRecDepth 20000 in
theorem gL_law_X4_stone : GoodIn wsL_law (wsV RL 79 RX4 yX4_stone wsX4_stone) := goodIn_app (goodIn_of _ (by decide +kernel)) ggL_law_X4_stone
set_option maxRecDepth 20000 in
theorem ggL_law_X4_can : GoodIn wsL_law wsX4_can := goodIn_ca (goodIn_r _ [318, 17, 150, 151, 152, 2, 153, 154, 155, 156, 157, 158, 16, 159, 160, 143, 144, 145, 67, 68, 319, 303, 304, 305, 33, 34, 298, 299, 300, 301, 29, 83, 84, 306, 307, 308, 32, 309, 60, 273, 59, 61, 272, 274, 58, 275, 276, 277, 278, 57, 62, 279, 280, 281, 282, 283, 284, 285, 286, 287, 288, 289, 290, 291, 292, 28, 293, 40, 469, 470, 471, 472, 473, 474, 475, 484, 485, 486, 487, 488, 489, 490, 491, 492, 483] (by decide +kernel) (by decide +kernel)) (goodIn_sub (fun _ h => List.mem_append_left _ (List.mem_append_right _ h)) (by decide +kernel))
set_option maxRecDepth 20000 in
theorem gL_law_X4_can : GoodIn wsL_law (wsV RL 82 RX4 yX4_can wsX4_can) := goodIn_app (goodIn_of _ (by decide +kernel)) ggL_law_X4_can
set_option maxRecDepth 20000 in
theorem ggL_law_X5_many : GoodIn wsL_law wsX5_many := goodIn_r _ [322] (by decide +kernel) (by decide +kernel)
set_option maxRecDepth 20000 in
theorem gL_law_X5_many : GoodIn wsL_law (va_wsS RL 84 yX5_many wsX5_many) := goodIn_app (goodIn_of _ (by decide +kernel)) ggL_law_X5_many
set_option maxRecDepth 20000 in
theorem ggL_law_X4_corridor : GoodIn wsL_law wsX4_corridor := goodIn_ca (goodIn_r _ [326, 154, 155, 17, 150, 151, 152, 2, 153, 156, 157, 158, 16, 159, 160, 143, 144, 145, 67, 68, 181, 182, 183, 184, 34, 33, 327, 328, 329, 32, 330, 60, 61, 59, 272, 274, 83, 84, 275, 276, 277, 278, 273, 57, 62, 331, 269, 270, 271, 58, 279, 280, 281, 282, 283, 284, 285, 286, 287, 288, 289, 290, 291, 292, 28, 293, 40, 469, 470, 471, 472, 473, 474, 475, 484, 485, 486, 487, 488, 489, 490, 491, 492, 483] (by decide +kernel) (by decide +kernel)) (goodIn_sub (fun _ h => List.mem_append_left _ (List.mem_append_right _ h)) (by decide +kernel))
set_option maxRecDepth 20000 in
theorem gL_law_X4_corridor : GoodIn wsL_law (wsV RL 87 RX4 yX4_corridor wsX4_corridor) := goodIn_app (goodIn_of _ (by decide +kernel)) ggL_law_X4_corridor
set_option maxRecDepth 20000 in
theorem ggL_law_X4_ways : GoodIn wsL_law wsX4_ways := goodIn_ca (goodIn_r _ [335, 336, 337, 2, 338, 135, 136, 339, 340, 341, 342, 284, 285, 286, 287, 288, 289, 343, 344, 345, 346, 347, 348] (by decide +kernel) (by decide +kernel)) (goodIn_sub (fun _ h => List.mem_append_left _ (List.mem_append_left _ (List.mem_append_right _ h))) (by decide +kernel))
set_option maxRecDepth 20000 in
theorem gL_law_X4_ways : GoodIn wsL_law (wsV RL 89 RX4 yX4_ways wsX4_ways) := goodIn_app (goodIn_of _ (by decide +kernel)) ggL_law_X4_ways
set_option maxRecDepth 20000 in
theorem ggL_law_L_below : GoodIn wsL_law wsL_below := goodIn_r _ [119, 120] (by decide +kernel) (by decide +kernel)
set_option maxRecDepth 20000 in
theorem gL_law_L_below : GoodIn wsL_law (va_wsS RL 18 yL_below wsL_below) := goodIn_app (goodIn_of _ (by decide +kernel)) ggL_law_L_below
set_option maxRecDepth 20000 in
theorem ggL_law_X4_forced : GoodIn wsL_law wsX4_forced := goodIn_ca (goodIn_r _ [352, 336, 337, 2, 338, 135, 136, 339, 340, 341, 342, 284, 285, 286, 287, 288, 289, 343, 344, 345, 346, 347, 348] (by decide +kernel) (by decide +kernel)) (goodIn_sub (fun _ h => List.mem_append_left _ (List.mem_append_left _ (List.mem_append_right _ h))) (by decide +kernel))
set_option maxRecDepth 20000 in
theorem gL_law_X4_forced : GoodIn wsL_law (wsV RL 92 RX4 yX4_forced wsX4_forced) := goodIn_app (goodIn_of _ (by decide +kernel)) ggL_law_X4_forced
set_option maxRecDepth 20000 in
theorem ggL_law_X4_digest : GoodIn wsL_law wsX4_digest := goodIn_r _ [356, 357, 17, 21, 236, 237, 238, 16, 239, 67, 33, 34, 160, 143, 144, 145, 68, 240, 241, 242, 243, 165, 166, 167, 168, 29, 83, 2, 84, 244, 245, 246, 247, 248, 249, 250, 251, 252, 253, 254, 32, 255, 60, 256, 257, 258, 259, 260, 261, 262, 263, 59, 264, 265, 266, 267, 268, 269, 270, 271, 61, 272, 58, 273, 274, 275, 276, 277, 278, 57, 62, 279, 280, 281, 282, 283, 284, 285, 286, 287, 288, 289, 290, 291, 292, 28, 293, 40, 294, 295, 296, 297, 298, 299, 300, 301, 302, 303, 304, 305, 306, 307, 308, 309, 310, 358, 359, 360, 361, 142, 362, 363, 364, 365, 224, 225, 226, 227, 181, 182, 183, 184, 366, 319, 367, 368, 369, 327, 328, 329, 330, 331, 370, 371, 372, 20, 373, 95, 92, 93, 94, 89, 374, 375, 376, 377, 378, 379, 380, 381, 90, 382, 383, 69, 70, 384, 385, 386, 387, 388, 389, 390, 91, 391, 392, 393, 394, 395, 396, 397, 398, 399, 400, 347, 348, 401, 229, 230, 231, 402, 403, 404, 405, 406, 407, 408, 409, 469, 470, 471, 472, 473, 474, 475, 484, 485, 486, 487, 488, 489, 490, 491, 492, 483, 476, 477, 478, 479, 480, 481, 482] (by decide +kernel) (by decide +kernel)
set_option maxRecDepth 20000 in
theorem gL_law_X4_digest : GoodIn wsL_law (wsV RL 95 RX4 yX4_digest wsX4_digest) := goodIn_app (goodIn_of _ (by decide +kernel)) ggL_law_X4_digest
set_option maxRecDepth 20000 in
theorem ggL_law_X4_fillings : GoodIn wsL_law wsX4_fillings := goodIn_r _ [413, 21, 370, 371, 372, 20, 373, 95, 92, 93, 94, 89, 374, 375, 376, 16, 377, 33, 34, 264, 265, 266, 267, 160, 143, 144, 145, 67, 68, 252, 253, 254, 32, 255, 60, 83, 2, 84, 268, 269, 270, 271, 59, 61, 272, 58, 273, 274, 275, 276, 277, 278, 57, 62, 279, 280, 281, 282, 283, 284, 285, 286, 287, 288, 289, 290, 291, 292, 28, 293, 40, 248, 249, 250, 251, 378, 379, 380, 381, 90, 382, 383, 299, 300, 301, 29, 69, 70, 384, 385, 386, 387, 388, 389, 390, 91, 391, 225, 226, 227, 392, 303, 304, 305, 298, 306, 307, 308, 309, 393, 394, 395, 396, 397, 398, 399, 400, 347, 348, 401, 229, 230, 231, 402, 403, 404, 405, 469, 470, 476, 477, 478, 479, 480, 481, 482, 471, 472, 473, 474, 475, 484, 485, 486, 487, 488, 489, 490, 491, 492, 483] (by decide +kernel) (by decide +kernel)
set_option maxRecDepth 20000 in
theorem gL_law_X4_fillings : GoodIn wsL_law (wsV RL 99 RX4 yX4_fillings wsX4_fillings) := goodIn_app (goodIn_of _ (by decide +kernel)) ggL_law_X4_fillings
set_option maxRecDepth 20000 in
theorem ggL_law_X4_tries : GoodIn wsL_law wsX4_tries := goodIn_r _ [417, 21, 370, 371, 372, 20, 373, 95, 92, 93, 94, 89, 374, 375, 376, 16, 377, 33, 34, 264, 265, 266, 267, 160, 143, 144, 145, 67, 68, 252, 253, 254, 32, 255, 60, 83, 2, 84, 268, 269, 270, 271, 59, 61, 272, 58, 273, 274, 275, 276, 277, 278, 57, 62, 279, 280, 281, 282, 283, 284, 285, 286, 287, 288, 289, 290, 291, 292, 28, 293, 40, 248, 249, 250, 251, 378, 379, 380, 381, 90, 382, 383, 299, 300, 301, 29, 69, 70, 384, 385, 386, 387, 388, 389, 390, 91, 391, 225, 226, 227, 392, 303, 304, 305, 298, 306, 307, 308, 309, 393, 394, 395, 396, 397, 398, 399, 400, 347, 348, 401, 229, 230, 231, 406, 407, 408, 409, 469, 470, 476, 477, 478, 479, 480, 481, 482, 471, 472, 473, 474, 475, 484, 485, 486, 487, 488, 489, 490, 491, 492, 483] (by decide +kernel) (by decide +kernel)
set_option maxRecDepth 20000 in
theorem gL_law_X4_tries : GoodIn wsL_law (wsV RL 103 RX4 yX4_tries wsX4_tries) := goodIn_app (goodIn_of _ (by decide +kernel)) ggL_law_X4_tries
set_option maxRecDepth 20000 in
theorem ggL_law_X4_next : GoodIn wsL_law wsX4_next := goodIn_r _ [421, 17, 422, 423, 424, 16, 425, 160, 143, 144, 145, 67, 68, 302, 303, 304, 305, 33, 34, 298, 299, 300, 301, 29, 83, 2, 84, 306, 307, 308, 32, 309, 60, 273, 59, 61, 272, 274, 58, 275, 276, 277, 278, 57, 62, 279, 280, 281, 282, 283, 284, 285, 286, 287, 288, 289, 290, 291, 292, 28, 293, 40, 310, 469, 470, 471, 472, 473, 474, 475, 484, 485, 486, 487, 488, 489, 490, 491, 492, 483] (by decide +kernel) (by decide +kernel)
set_option maxRecDepth 20000 in
theorem gL_law_X4_next : GoodIn wsL_law (wsV RL 106 RX4 yX4_next wsX4_next) := goodIn_app (goodIn_of _ (by decide +kernel)) ggL_law_X4_next
set_option maxRecDepth 20000 in
theorem ggL_law_X4_solved : GoodIn wsL_law wsX4_solved := goodIn_ca (goodIn_r _ [429, 17, 21, 150, 151, 152, 2, 153, 154, 155, 156, 157, 158, 16, 159, 160, 143, 144, 145, 67, 68, 169, 166, 167, 168, 29, 83, 84, 370, 371, 372, 20, 373, 95, 92, 93, 94, 89, 374, 375, 376, 377, 33, 34, 264, 265, 266, 267, 252, 253, 254, 32, 255, 60, 268, 269, 270, 271, 59, 61, 272, 58, 273, 274, 275, 276, 277, 278, 57, 62, 279, 280, 281, 282, 283, 284, 285, 286, 287, 288, 289, 290, 291, 292, 28, 293, 40, 248, 249, 250, 251, 378, 379, 380, 381, 90, 382, 383, 299, 300, 301, 69, 70, 384, 385, 386, 387, 388, 389, 390, 91, 391, 225, 226, 227, 392, 303, 304, 305, 298, 306, 307, 308, 309, 393, 394, 395, 396, 397, 398, 399, 400, 347, 348, 401, 229, 230, 231, 430, 431, 432, 433, 469, 470, 471, 472, 473, 474, 475, 476, 477, 478, 479, 480, 481, 482, 484, 485, 486, 487, 488, 489, 490, 491, 492, 483] (by decide +kernel) (by decide +kernel)) (goodIn_sub (fun _ h => List.mem_append_left _ (List.mem_append_right _ h)) (by decide +kernel))
set_option maxRecDepth 20000 in
theorem gL_law_X4_solved : GoodIn wsL_law (wsV RL 109 RX4 yX4_solved wsX4_solved) := goodIn_app (goodIn_of _ (by decide +kernel)) ggL_law_X4_solved
set_option maxRecDepth 20000 in
theorem ggL_law_X4_force : GoodIn wsL_law wsX4_force := goodIn_r _ [437, 21, 17, 137, 138, 139, 20, 140, 95, 438, 439, 440, 16, 441, 160, 143, 144, 145, 67, 68, 302, 303, 304, 305, 33, 34, 298, 299, 300, 301, 29, 83, 2, 84, 306, 307, 308, 32, 309, 60, 273, 59, 61, 272, 274, 58, 275, 276, 277, 278, 57, 62, 279, 280, 281, 282, 283, 284, 285, 286, 287, 288, 289, 290, 291, 292, 28, 293, 40, 310, 319, 442, 443, 444, 346, 347, 348, 228, 229, 230, 231, 69, 70, 469, 470, 476, 477, 478, 479, 480, 481, 482, 471, 472, 473, 474, 475, 484, 485, 486, 487, 488, 489, 490, 491, 492, 483] (by decide +kernel) (by decide +kernel)
set_option maxRecDepth 20000 in
theorem gL_law_X4_force : GoodIn wsL_law (wsV RL 117 RX4 yX4_force wsX4_force) := goodIn_app (goodIn_of _ (by decide +kernel)) ggL_law_X4_force
set_option maxRecDepth 20000 in
theorem ggL_law_X5_force : GoodIn wsL_law wsX5_force := goodIn_r _ [448, 107, 108, 110, 449, 190, 191, 102, 192, 193, 194, 195, 196, 197, 171, 172, 173, 3, 174, 175, 176, 198, 199, 200, 201, 202, 203, 204, 205, 206, 112, 111, 207, 208, 209, 210, 211, 212, 213, 450, 321, 322, 451, 446, 447, 493, 494, 495, 496, 497, 498, 499, 500] (by decide +kernel) (by decide +kernel)
set_option maxRecDepth 20000 in
theorem gL_law_X5_force : GoodIn wsL_law (wsV RL 120 RX5 yX5_force wsX5_force) := goodIn_app (goodIn_of _ (by decide +kernel)) ggL_law_X5_force
set_option maxRecDepth 20000 in
theorem x_ggL_law_X5_isSame_h : GoodIn wsL_law [.code yX5_isSame cX5_isSame 20 (some .boolean)] := goodIn_sub (fun w h => by rw [List.mem_singleton.mp h]; exact List.mem_of_getElem? (i := 455) rfl) (by decide +kernel)
set_option maxRecDepth 20000 in
theorem x_ggL_law_X5_isSame_r1 : GoodIn wsL_law wsX5_isSame_r1 := goodIn_sub (by decide +kernel) (by decide +kernel)
set_option maxRecDepth 20000 in
theorem x_ggL_law_X5_isSame_r2 : GoodIn wsL_law wsX5_isSame_r2 := goodIn_sub (by decide +kernel) (by decide +kernel)
set_option maxRecDepth 20000 in
theorem x_ggL_law_X5_isSame_r3 : GoodIn wsL_law wsX5_isSame_r3 := goodIn_sub (by decide +kernel) (by decide +kernel)
set_option maxRecDepth 20000 in
theorem x_ggL_law_X5_isSame_r4 : GoodIn wsL_law wsX5_isSame_r4 := goodIn_sub (by decide +kernel) (by decide +kernel)
set_option maxRecDepth 20000 in
theorem x_ggL_law_X5_isSame_r5 : GoodIn wsL_law wsX5_isSame_r5 := goodIn_sub (by decide +kernel) (by decide +kernel)
set_option maxRecDepth 20000 in
theorem x_ggL_law_X5_isSame_r6 : GoodIn wsL_law wsX5_isSame_r6 := goodIn_sub (by decide +kernel) (by decide +kernel)
set_option maxRecDepth 20000 in
theorem x_ggL_law_X5_isSame_r7 : GoodIn wsL_law wsX5_isSame_r7 := goodIn_sub (by decide +kernel) (by decide +kernel)
set_option maxRecDepth 20000 in
theorem x_ggL_law_X5_isSame_r8 : GoodIn wsL_law wsX5_isSame_r8 := goodIn_sub (by decide +kernel) (by decide +kernel)
set_option maxRecDepth 20000 in
theorem x_ggL_law_X5_isSame_r9 : GoodIn wsL_law wsX5_isSame_r9 := goodIn_sub (by decide +kernel) (by decide +kernel)
set_option maxRecDepth 20000 in
theorem x_ggL_law_X5_isSame_X5 : GoodIn wsL_law wsX50 := goodIn_sub (fun w h => inlX5 w h) (by decide +kernel)
set_option maxRecDepth 20000 in
theorem x_ggL_law_X5_isSame_X4 : GoodIn wsL_law wsX40 := goodIn_sub (fun w h => inlX4 w h) (by decide +kernel)
set_option maxRecDepth 20000 in
theorem x_ggL_law_X5_isSame_X1 : GoodIn wsL_law wsX10 := goodIn_sub (fun w h => inlX1 w h) (by decide +kernel)
set_option maxRecDepth 20000 in
theorem x_ggL_law_X5_isSame_X0 : GoodIn wsL_law wsX00 := goodIn_sub (fun w h => inlX0 w h) (by decide +kernel)
set_option maxRecDepth 20000 in
theorem x_ggL_law_X5_isSame_X2 : GoodIn wsL_law wsX20 := goodIn_sub (fun w h => inlX2 w h) (by decide +kernel)
set_option maxRecDepth 20000 in
theorem ggL_law_X5_isSame : GoodIn wsL_law wsX5_isSame := goodIn_ca (goodIn_app (a := [.code yX5_isSame cX5_isSame 20 (some .boolean)]) x_ggL_law_X5_isSame_h (goodIn_app (goodIn_app (goodIn_app (goodIn_app (goodIn_app (goodIn_app x_ggL_law_X5_isSame_r1 (goodIn_app x_ggL_law_X5_isSame_r2 (goodIn_app x_ggL_law_X5_isSame_r3 (goodIn_app x_ggL_law_X5_isSame_r4 (goodIn_app x_ggL_law_X5_isSame_r5 (goodIn_app x_ggL_law_X5_isSame_r6 (goodIn_app x_ggL_law_X5_isSame_r7 (goodIn_app x_ggL_law_X5_isSame_r8 x_ggL_law_X5_isSame_r9)))))))) x_ggL_law_X5_isSame_X5) x_ggL_law_X5_isSame_X4) x_ggL_law_X5_isSame_X1) x_ggL_law_X5_isSame_X0) x_ggL_law_X5_isSame_X2)) (goodIn_sub (fun _ h => List.mem_append_left _ (List.mem_append_right _ h)) (by decide +kernel))
set_option maxRecDepth 20000 in
theorem gL_law_X5_isSame : GoodIn wsL_law (wsV RL 121 RX5 yX5_isSame wsX5_isSame) := goodIn_app (goodIn_of _ (by decide +kernel)) ggL_law_X5_isSame
