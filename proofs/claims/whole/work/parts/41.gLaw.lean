set_option maxRecDepth 20000 in
theorem ggL_law_X4_init : GoodIn wsL_law wsX4_init := goodIn_r _ [9, 10, 11, 12, 13, 14, 15, 16, 17, 18, 19, 20, 21, 22, 23, 24, 25, 26, 27, 28, 29, 30, 31, 32, 33, 34, 35, 36, 37, 38, 6, 39, 40, 41, 42, 43, 44, 45, 46, 47, 48, 49, 50, 51, 52, 53, 54, 55, 56, 57, 58, 59, 60, 61, 62, 63, 64, 65, 66, 67, 68, 2, 69, 70, 71, 72, 73, 74, 75, 76, 77, 78, 79, 80, 81, 82, 83, 84, 85, 86, 87, 88, 89, 90, 91, 92, 93, 94, 633, 634, 635, 636, 637, 619, 620, 638, 639, 640, 641, 642, 643, 644, 645, 646, 647, 648, 649, 650, 651, 652, 653, 654] (by decide +kernel) (by decide +kernel)
set_option maxRecDepth 20000 in
theorem gL_law_X4_init : GoodIn wsL_law (wsX4_init) := ggL_law_X4_init
set_option maxRecDepth 20000 in
theorem ggL_law_X5_init : GoodIn wsL_law wsX5_init := goodIn_r _ [97, 98, 11, 12, 99, 100, 25, 101, 102, 103, 104, 105, 106, 107, 108, 109, 110, 111, 112, 113, 114, 115, 5, 116, 117, 118, 119, 120, 621, 622, 623, 624, 625, 626, 627, 628, 629, 630, 631, 632] (by decide +kernel) (by decide +kernel)
set_option maxRecDepth 20000 in
theorem gL_law_X5_init : GoodIn wsL_law (wsX5_init) := ggL_law_X5_init
set_option maxRecDepth 20000 in
theorem ggL_law_L_setFloor : GoodIn wsL_law wsL_setFloor := goodIn_ca (goodIn_r _ [124, 125, 126, 127, 128, 2, 129, 130, 131, 20, 16, 132, 133, 134, 19, 135, 94, 136, 63, 64, 15, 65, 66, 67, 29, 33, 34, 68, 69, 70, 71, 72, 32, 73, 61, 58, 74, 75, 76, 77, 78, 79, 80, 81, 60, 56, 59, 82, 83, 137, 138, 139, 140, 619, 620, 638, 639, 640, 641, 642, 643, 644, 633, 634, 635, 636, 637, 646, 647, 648, 649, 650, 651, 652, 653, 654] (by decide +kernel) (by decide +kernel)) (goodIn_sub (fun _ h => List.mem_append_left _ (List.mem_append_left _ (List.mem_append_right _ h))) (by decide +kernel))
set_option maxRecDepth 20000 in
theorem gL_law_L_setFloor : GoodIn wsL_law (va_wsS RL 59 yL_setFloor wsL_setFloor) := goodIn_app (goodIn_of _ (by decide +kernel)) ggL_law_L_setFloor
set_option maxRecDepth 20000 in
theorem ggL_law_X5_setFloor : GoodIn wsL_law wsX5_setFloor := goodIn_r _ [144, 145, 99, 100, 101, 102, 146, 147, 5, 148, 149, 150, 151, 152, 117, 118, 119, 120, 103, 621, 622, 623, 624, 625, 626, 627, 628, 629, 630, 631, 632] (by decide +kernel) (by decide +kernel)
set_option maxRecDepth 20000 in
theorem gL_law_X5_setFloor : GoodIn wsL_law (wsV RL 64 RX5 yX5_setFloor wsX5_setFloor) := goodIn_app (goodIn_of _ (by decide +kernel)) ggL_law_X5_setFloor
set_option maxRecDepth 20000 in
theorem ggL_law_X5_thrown : GoodIn wsL_law wsX5_thrown := goodIn_r _ [156, 145, 621, 622, 623, 624, 625, 626, 627, 628, 629, 630, 631, 632] (by decide +kernel) (by decide +kernel)
set_option maxRecDepth 20000 in
theorem gL_law_X5_thrown : GoodIn wsL_law (wsV RL 65 RX5 yX5_thrown wsX5_thrown) := goodIn_app (goodIn_of _ (by decide +kernel)) ggL_law_X5_thrown
set_option maxRecDepth 20000 in
theorem ggL_law_L_pillar : GoodIn wsL_law wsL_pillar := goodIn_ca (goodIn_r _ [159, 160, 161, 162, 163, 2, 164, 20, 16, 165, 166, 167, 168, 169, 170, 171, 172, 173, 15, 174, 175, 138, 139, 140, 66, 67, 132, 133, 134, 19, 135, 94, 176, 177, 178, 179, 29, 180, 181, 182, 183, 82, 83, 68, 69, 74, 75, 76, 77, 33, 34, 78, 79, 80, 32, 81, 60, 56, 59, 184, 619, 620, 633, 634, 635, 636, 637, 638, 639, 640, 641, 642, 643, 644, 646, 647, 648, 649, 650, 651, 652, 653, 654] (by decide +kernel) (by decide +kernel)) (goodIn_sub (fun _ h => List.mem_append_left _ (List.mem_append_right _ h)) (by decide +kernel))
set_option maxRecDepth 20000 in
theorem gL_law_L_pillar : GoodIn wsL_law (va_wsS RL 69 yL_pillar wsL_pillar) := goodIn_app (goodIn_of _ (by decide +kernel)) ggL_law_L_pillar
set_option maxRecDepth 20000 in
theorem ggL_law_X5_pillar : GoodIn wsL_law wsX5_pillar := goodIn_r _ [188, 145, 101, 189, 190, 191, 5, 192, 99, 100, 146, 147, 148, 117, 118, 119, 120, 103, 621, 622, 623, 624, 625, 626, 627, 628, 629, 630, 631, 632] (by decide +kernel) (by decide +kernel)
set_option maxRecDepth 20000 in
theorem gL_law_X5_pillar : GoodIn wsL_law (wsV RL 72 RX5 yX5_pillar wsX5_pillar) := goodIn_app (goodIn_of _ (by decide +kernel)) ggL_law_X5_pillar
set_option maxRecDepth 20000 in
theorem ggL_law_L_setSum : GoodIn wsL_law wsL_setSum := goodIn_ca (goodIn_ca (goodIn_r _ [195, 160, 125, 196, 197, 198, 2, 199, 130, 131, 20, 16, 165, 166, 167, 168, 169, 170, 171, 172, 173, 15, 174, 175, 138, 139, 140, 66, 67, 132, 133, 134, 19, 135, 94, 200, 201, 202, 203, 34, 33, 204, 205, 206, 32, 207, 58, 82, 83, 68, 69, 619, 620, 633, 634, 635, 636, 637, 638, 639, 640, 641, 642, 643, 644, 646, 647, 648, 649, 650, 651, 652, 653, 654] (by decide +kernel) (by decide +kernel)) (goodIn_sub (fun _ h => List.mem_append_left _ (List.mem_append_left _ (List.mem_append_right _ h))) (by decide +kernel))) (goodIn_sub (fun _ h => List.mem_append_left _ (List.mem_append_right _ h)) (by decide +kernel))
set_option maxRecDepth 20000 in
theorem gL_law_L_setSum : GoodIn wsL_law (va_wsS RL 73 yL_setSum wsL_setSum) := goodIn_app (goodIn_of _ (by decide +kernel)) ggL_law_L_setSum
set_option maxRecDepth 20000 in
theorem ggL_law_X5_setSum : GoodIn wsL_law wsX5_setSum := goodIn_r _ [211, 145, 102, 189, 190, 191, 5, 192, 99, 100, 146, 147, 148, 149, 150, 151, 152, 621, 622, 623, 624, 625, 626, 627, 628, 629, 630, 631, 632] (by decide +kernel) (by decide +kernel)
set_option maxRecDepth 20000 in
theorem gL_law_X5_setSum : GoodIn wsL_law (wsV RL 76 RX5 yX5_setSum wsX5_setSum) := goodIn_app (goodIn_of _ (by decide +kernel)) ggL_law_X5_setSum
set_option maxRecDepth 20000 in
theorem ggL_law_L_put : GoodIn wsL_law wsL_put := goodIn_ca (goodIn_ca (goodIn_ca (goodIn_r _ [214, 160, 125, 215, 216, 217, 218, 2, 219, 130, 131, 16, 20, 165, 166, 167, 168, 169, 170, 171, 172, 173, 15, 174, 175, 138, 139, 140, 66, 67, 220, 221, 222, 223, 224, 225, 184, 181, 182, 183, 29, 82, 83, 226, 227, 228, 229, 132, 133, 134, 19, 135, 94, 230, 231, 232, 233, 68, 69, 619, 620, 633, 634, 635, 636, 637, 638, 639, 640, 641, 642, 643, 644] (by decide +kernel) (by decide +kernel)) (goodIn_sub (fun _ h => List.mem_append_left _ (List.mem_append_left _ (List.mem_append_right _ h))) (by decide +kernel))) (goodIn_sub (fun _ h => List.mem_append_left _ (List.mem_append_right _ h)) (by decide +kernel))) (goodIn_sub (fun _ h => List.mem_append_right _ h) (by decide +kernel))
set_option maxRecDepth 20000 in
theorem gL_law_L_put : GoodIn wsL_law (va_wsS RL 77 yL_put wsL_put) := goodIn_app (goodIn_of _ (by decide +kernel)) ggL_law_L_put
set_option maxRecDepth 20000 in
theorem ggL_law_X5_put : GoodIn wsL_law wsX5_put := goodIn_r _ [237, 145, 101, 189, 190, 191, 5, 192, 99, 100, 146, 147, 148, 149, 150, 151, 152, 621, 622, 623, 624, 625, 626, 627, 628, 629, 630, 631, 632] (by decide +kernel) (by decide +kernel)
set_option maxRecDepth 20000 in
theorem gL_law_X5_put : GoodIn wsL_law (wsV RL 79 RX5 yX5_put wsX5_put) := goodIn_app (goodIn_of _ (by decide +kernel)) ggL_law_X5_put
set_option maxRecDepth 20000 in
theorem ggL_law_X4_force : GoodIn wsL_law wsX4_force := goodIn_r _ [241, 20, 16, 132, 133, 134, 19, 135, 94, 242, 243, 244, 15, 245, 175, 138, 139, 140, 66, 67, 246, 247, 248, 249, 33, 34, 250, 251, 252, 253, 29, 82, 2, 83, 254, 255, 256, 32, 257, 59, 258, 58, 60, 259, 260, 57, 261, 262, 263, 264, 56, 61, 265, 266, 267, 268, 269, 108, 109, 110, 111, 112, 113, 270, 271, 272, 28, 273, 39, 274, 275, 276, 277, 278, 279, 280, 281, 230, 231, 232, 233, 68, 69, 619, 620, 638, 639, 640, 641, 642, 643, 644, 633, 634, 635, 636, 637, 646, 647, 648, 649, 650, 651, 652, 653, 654, 645] (by decide +kernel) (by decide +kernel)
set_option maxRecDepth 20000 in
theorem gL_law_X4_force : GoodIn wsL_law (wsV RL 80 RX4 yX4_force wsX4_force) := goodIn_app (goodIn_of _ (by decide +kernel)) ggL_law_X4_force
set_option maxRecDepth 20000 in
theorem ggL_law_X5_force : GoodIn wsL_law wsX5_force := goodIn_r _ [285, 145, 101, 286, 287, 288, 5, 289, 99, 100, 290, 291, 292, 293, 294, 295, 296, 297, 298, 299, 300, 301, 102, 302, 303, 304, 305, 103, 306, 307, 308, 309, 310, 311, 312, 313, 114, 115, 116, 314, 315, 316, 317, 105, 104, 107, 108, 109, 110, 111, 112, 113, 318, 319, 320, 321, 621, 622, 623, 624, 625, 626, 627, 628, 629, 630, 631, 632] (by decide +kernel) (by decide +kernel)
set_option maxRecDepth 20000 in
theorem gL_law_X5_force : GoodIn wsL_law (wsV RL 83 RX5 yX5_force wsX5_force) := goodIn_app (goodIn_of _ (by decide +kernel)) ggL_law_X5_force
set_option maxRecDepth 20000 in
theorem ggL_law_L_stone : GoodIn wsL_law wsL_stone := goodIn_ca (goodIn_r _ [324, 160, 325, 326, 327, 2, 328, 16, 165, 166, 167, 168, 169, 170, 171, 172, 173, 15, 174, 175, 138, 139, 140, 66, 67, 226, 227, 228, 229, 29, 82, 83, 619, 620, 633, 634, 635, 636, 637] (by decide +kernel) (by decide +kernel)) (goodIn_sub (fun _ h => List.mem_append_left _ (List.mem_append_right _ h)) (by decide +kernel))
set_option maxRecDepth 20000 in
theorem gL_law_L_stone : GoodIn wsL_law (va_wsS RL 84 yL_stone wsL_stone) := goodIn_app (goodIn_of _ (by decide +kernel)) ggL_law_L_stone
set_option maxRecDepth 20000 in
theorem ggL_law_X5_stone : GoodIn wsL_law wsX5_stone := goodIn_r _ [332, 145, 101, 189, 190, 191, 5, 192, 99, 100, 146, 147, 148, 149, 150, 151, 152, 621, 622, 623, 624, 625, 626, 627, 628, 629, 630, 631, 632] (by decide +kernel) (by decide +kernel)
set_option maxRecDepth 20000 in
theorem gL_law_X5_stone : GoodIn wsL_law (wsV RL 86 RX5 yX5_stone wsX5_stone) := goodIn_app (goodIn_of _ (by decide +kernel)) ggL_law_X5_stone
set_option maxRecDepth 20000 in
theorem ggL_law_L_corridor : GoodIn wsL_law wsL_corridor := goodIn_ca (goodIn_r _ [335, 160, 336, 337, 338, 2, 339, 169, 170, 16, 165, 166, 167, 168, 171, 172, 173, 15, 174, 175, 138, 139, 140, 66, 67, 200, 201, 202, 203, 34, 33, 340, 341, 342, 32, 343, 59, 60, 58, 259, 260, 82, 83, 261, 262, 263, 264, 258, 56, 61, 344, 345, 346, 347, 57, 265, 266, 267, 268, 269, 108, 109, 110, 111, 112, 113, 270, 271, 272, 28, 273, 39, 619, 620, 633, 634, 635, 636, 637, 646, 647, 648, 649, 650, 651, 652, 653, 654, 645] (by decide +kernel) (by decide +kernel)) (goodIn_sub (fun _ h => List.mem_append_left _ (List.mem_append_right _ h)) (by decide +kernel))
set_option maxRecDepth 20000 in
theorem gL_law_L_corridor : GoodIn wsL_law (va_wsS RL 87 yL_corridor wsL_corridor) := goodIn_app (goodIn_of _ (by decide +kernel)) ggL_law_L_corridor
set_option maxRecDepth 20000 in
theorem ggL_law_X5_corridor : GoodIn wsL_law wsX5_corridor := goodIn_r _ [351, 145, 189, 190, 191, 5, 192, 99, 100, 146, 147, 148, 352, 353, 354, 355, 101, 102, 302, 303, 304, 305, 103, 306, 307, 308, 309, 310, 311, 312, 313, 298, 299, 300, 301, 114, 115, 116, 314, 315, 316, 317, 105, 104, 149, 150, 151, 152, 621, 622, 623, 624, 625, 626, 627, 628, 629, 630, 631, 632] (by decide +kernel) (by decide +kernel)
set_option maxRecDepth 20000 in
theorem gL_law_X5_corridor : GoodIn wsL_law (wsV RL 89 RX5 yX5_corridor wsX5_corridor) := goodIn_app (goodIn_of _ (by decide +kernel)) ggL_law_X5_corridor
set_option maxRecDepth 20000 in
theorem ggL_law_L_can : GoodIn wsL_law wsL_can := goodIn_ca (goodIn_r _ [358, 160, 359, 360, 361, 2, 362, 16, 165, 166, 167, 168, 169, 170, 171, 172, 173, 15, 174, 175, 138, 139, 140, 66, 67, 275, 247, 248, 249, 33, 34, 250, 251, 252, 253, 29, 82, 83, 254, 255, 256, 32, 257, 59, 258, 58, 60, 259, 260, 57, 261, 262, 263, 264, 56, 61, 265, 266, 267, 268, 269, 108, 109, 110, 111, 112, 113, 270, 271, 272, 28, 273, 39, 619, 620, 633, 634, 635, 636, 637, 646, 647, 648, 649, 650, 651, 652, 653, 654, 645] (by decide +kernel) (by decide +kernel)) (goodIn_sub (fun _ h => List.mem_append_left _ (List.mem_append_right _ h)) (by decide +kernel))
set_option maxRecDepth 20000 in
theorem gL_law_L_can : GoodIn wsL_law (va_wsS RL 90 yL_can wsL_can) := goodIn_app (goodIn_of _ (by decide +kernel)) ggL_law_L_can
set_option maxRecDepth 20000 in
theorem ggL_law_X5_can : GoodIn wsL_law wsX5_can := goodIn_r _ [366, 145, 189, 190, 191, 5, 192, 99, 100, 146, 147, 148, 290, 291, 292, 293, 101, 294, 295, 296, 297, 298, 299, 300, 301, 102, 302, 303, 304, 305, 103, 306, 307, 308, 309, 310, 311, 312, 313, 114, 115, 116, 314, 315, 316, 317, 105, 104, 149, 150, 151, 152, 621, 622, 623, 624, 625, 626, 627, 628, 629, 630, 631, 632] (by decide +kernel) (by decide +kernel)
set_option maxRecDepth 20000 in
theorem gL_law_X5_can : GoodIn wsL_law (wsV RL 92 RX5 yX5_can wsX5_can) := goodIn_app (goodIn_of _ (by decide +kernel)) ggL_law_X5_can
set_option maxRecDepth 20000 in
theorem ggL_law_L_count : GoodIn wsL_law wsL_count := goodIn_ca (goodIn_r _ [369, 160, 370, 371, 372, 2, 373, 169, 170, 16, 374, 375, 376, 15, 377, 66, 33, 34, 175, 138, 139, 140, 67, 378, 379, 380, 381, 180, 181, 182, 183, 29, 82, 83, 382, 383, 384, 385, 386, 387, 388, 389, 390, 391, 392, 32, 393, 59, 394, 395, 396, 397, 398, 399, 400, 401, 58, 402, 403, 404, 405, 406, 345, 346, 347, 60, 259, 57, 258, 260, 261, 262, 263, 264, 56, 61, 265, 266, 267, 268, 269, 108, 109, 110, 111, 112, 113, 270, 271, 272, 28, 273, 39, 407, 408, 409, 410, 250, 251, 252, 253, 246, 247, 248, 249, 254, 255, 256, 257, 274, 619, 620, 633, 634, 635, 636, 637, 646, 647, 648, 649, 650, 651, 652, 653, 654, 645] (by decide +kernel) (by decide +kernel)) (goodIn_sub (fun _ h => List.mem_append_left _ (List.mem_append_right _ h)) (by decide +kernel))
set_option maxRecDepth 20000 in
theorem gL_law_L_count : GoodIn wsL_law (va_wsS RL 93 yL_count wsL_count) := goodIn_app (goodIn_of _ (by decide +kernel)) ggL_law_L_count
set_option maxRecDepth 20000 in
theorem ggL_law_X5_count : GoodIn wsL_law wsX5_count := goodIn_r _ [414, 145, 146, 147, 5, 148, 415, 416, 417, 418, 99, 100, 101, 419, 420, 421, 422, 102, 302, 303, 304, 305, 103, 298, 299, 300, 301, 306, 307, 308, 309, 310, 311, 312, 313, 114, 115, 116, 314, 315, 316, 317, 105, 104, 290, 291, 292, 293, 294, 295, 296, 297, 107, 108, 109, 110, 111, 112, 113, 149, 150, 151, 152, 621, 622, 623, 624, 625, 626, 627, 628, 629, 630, 631, 632] (by decide +kernel) (by decide +kernel)
set_option maxRecDepth 20000 in
theorem gL_law_X5_count : GoodIn wsL_law (wsV RL 95 RX5 yX5_count wsX5_count) := goodIn_app (goodIn_of _ (by decide +kernel)) ggL_law_X5_count
set_option maxRecDepth 20000 in
theorem ggL_law_L_ways : GoodIn wsL_law wsL_ways := goodIn_ca (goodIn_r _ [425, 125, 426, 427, 428, 2, 429, 430, 431, 432, 130, 131, 433, 434, 435, 436, 108, 109, 110, 111, 112, 113, 437, 438, 439, 279, 280, 281] (by decide +kernel) (by decide +kernel)) (goodIn_sub (fun _ h => List.mem_append_left _ (List.mem_append_left _ (List.mem_append_right _ h))) (by decide +kernel))
set_option maxRecDepth 20000 in
theorem gL_law_L_ways : GoodIn wsL_law (va_wsS RL 96 yL_ways wsL_ways) := goodIn_app (goodIn_of _ (by decide +kernel)) ggL_law_L_ways
set_option maxRecDepth 20000 in
theorem ggL_law_X5_ways : GoodIn wsL_law wsX5_ways := goodIn_r _ [443, 145, 105, 146, 147, 5, 148, 149, 150, 151, 152, 621, 622, 623, 624, 625, 626, 627, 628, 629, 630, 631, 632] (by decide +kernel) (by decide +kernel)
set_option maxRecDepth 20000 in
theorem gL_law_X5_ways : GoodIn wsL_law (wsV RL 98 RX5 yX5_ways wsX5_ways) := goodIn_app (goodIn_of _ (by decide +kernel)) ggL_law_X5_ways
set_option maxRecDepth 20000 in
theorem ggL_law_L_forced : GoodIn wsL_law wsL_forced := goodIn_ca (goodIn_r _ [446, 125, 447, 448, 449, 2, 450, 430, 431, 432, 130, 131, 433, 434, 435, 436, 108, 109, 110, 111, 112, 113, 437, 438, 439, 279, 280, 281] (by decide +kernel) (by decide +kernel)) (goodIn_sub (fun _ h => List.mem_append_left _ (List.mem_append_left _ (List.mem_append_right _ h))) (by decide +kernel))
set_option maxRecDepth 20000 in
theorem gL_law_L_forced : GoodIn wsL_law (va_wsS RL 99 yL_forced wsL_forced) := goodIn_app (goodIn_of _ (by decide +kernel)) ggL_law_L_forced
set_option maxRecDepth 20000 in
theorem ggL_law_X5_forced : GoodIn wsL_law wsX5_forced := goodIn_r _ [454, 145, 146, 147, 5, 148, 455, 456, 457, 458, 105, 104, 149, 150, 151, 152, 621, 622, 623, 624, 625, 626, 627, 628, 629, 630, 631, 632] (by decide +kernel) (by decide +kernel)
set_option maxRecDepth 20000 in
theorem gL_law_X5_forced : GoodIn wsL_law (wsV RL 101 RX5 yX5_forced wsX5_forced) := goodIn_app (goodIn_of _ (by decide +kernel)) ggL_law_X5_forced
set_option maxRecDepth 20000 in
theorem ggL_law_X4_fillings : GoodIn wsL_law wsX4_fillings := goodIn_r _ [462, 20, 463, 464, 465, 19, 466, 94, 91, 92, 93, 88, 467, 468, 469, 15, 470, 33, 34, 402, 403, 404, 405, 175, 138, 139, 140, 66, 67, 390, 391, 392, 32, 393, 59, 82, 2, 83, 406, 345, 346, 347, 58, 60, 259, 57, 258, 260, 261, 262, 263, 264, 56, 61, 265, 266, 267, 268, 269, 108, 109, 110, 111, 112, 113, 270, 271, 272, 28, 273, 39, 386, 387, 388, 389, 471, 472, 473, 474, 89, 475, 476, 251, 252, 253, 29, 68, 69, 477, 478, 479, 480, 481, 482, 483, 90, 484, 227, 228, 229, 485, 247, 248, 249, 250, 254, 255, 256, 257, 486, 487, 488, 489, 490, 491, 492, 493, 280, 281, 494, 231, 232, 233, 495, 496, 497, 498, 619, 620, 638, 639, 640, 641, 642, 643, 644, 633, 634, 635, 636, 637, 646, 647, 648, 649, 650, 651, 652, 653, 654, 645] (by decide +kernel) (by decide +kernel)
set_option maxRecDepth 20000 in
theorem gL_law_X4_fillings : GoodIn wsL_law (wsV RL 102 RX4 yX4_fillings wsX4_fillings) := goodIn_app (goodIn_of _ (by decide +kernel)) ggL_law_X4_fillings
set_option maxRecDepth 20000 in
theorem ggL_law_X5_fillings : GoodIn wsL_law wsX5_fillings := goodIn_r _ [502, 145, 503, 504, 505, 5, 506, 507, 508, 509, 106, 510, 511, 512, 513, 99, 100, 101, 298, 299, 300, 301, 102, 302, 303, 304, 305, 103, 306, 307, 308, 309, 310, 311, 312, 313, 114, 115, 116, 314, 315, 316, 317, 105, 104, 514, 515, 516, 517, 518, 519, 520, 521, 522, 523, 524, 525, 294, 295, 296, 297, 526, 527, 528, 529, 621, 622, 623, 624, 625, 626, 627, 628, 629, 630, 631, 632] (by decide +kernel) (by decide +kernel)
set_option maxRecDepth 20000 in
theorem gL_law_X5_fillings : GoodIn wsL_law (wsV RL 105 RX5 yX5_fillings wsX5_fillings) := goodIn_app (goodIn_of _ (by decide +kernel)) ggL_law_X5_fillings
set_option maxRecDepth 20000 in
theorem ggL_law_X4_tries : GoodIn wsL_law wsX4_tries := goodIn_r _ [533, 20, 463, 464, 465, 19, 466, 94, 91, 92, 93, 88, 467, 468, 469, 15, 470, 33, 34, 402, 403, 404, 405, 175, 138, 139, 140, 66, 67, 390, 391, 392, 32, 393, 59, 82, 2, 83, 406, 345, 346, 347, 58, 60, 259, 57, 258, 260, 261, 262, 263, 264, 56, 61, 265, 266, 267, 268, 269, 108, 109, 110, 111, 112, 113, 270, 271, 272, 28, 273, 39, 386, 387, 388, 389, 471, 472, 473, 474, 89, 475, 476, 251, 252, 253, 29, 68, 69, 477, 478, 479, 480, 481, 482, 483, 90, 484, 227, 228, 229, 485, 247, 248, 249, 250, 254, 255, 256, 257, 486, 487, 488, 489, 490, 491, 492, 493, 280, 281, 494, 231, 232, 233, 534, 535, 536, 537, 619, 620, 638, 639, 640, 641, 642, 643, 644, 633, 634, 635, 636, 637, 646, 647, 648, 649, 650, 651, 652, 653, 654, 645] (by decide +kernel) (by decide +kernel)
set_option maxRecDepth 20000 in
theorem gL_law_X4_tries : GoodIn wsL_law (wsV RL 106 RX4 yX4_tries wsX4_tries) := goodIn_app (goodIn_of _ (by decide +kernel)) ggL_law_X4_tries
set_option maxRecDepth 20000 in
theorem ggL_law_X5_tries : GoodIn wsL_law wsX5_tries := goodIn_r _ [541, 145, 507, 503, 504, 505, 5, 506, 508, 509, 106, 510, 511, 512, 513, 99, 100, 101, 298, 299, 300, 301, 102, 302, 303, 304, 305, 103, 306, 307, 308, 309, 310, 311, 312, 313, 114, 115, 116, 314, 315, 316, 317, 105, 104, 514, 515, 516, 517, 518, 519, 520, 521, 522, 523, 524, 525, 294, 295, 296, 297, 621, 622, 623, 624, 625, 626, 627, 628, 629, 630, 631, 632] (by decide +kernel) (by decide +kernel)
set_option maxRecDepth 20000 in
theorem gL_law_X5_tries : GoodIn wsL_law (wsV RL 109 RX5 yX5_tries wsX5_tries) := goodIn_app (goodIn_of _ (by decide +kernel)) ggL_law_X5_tries
set_option maxRecDepth 20000 in
theorem ggL_law_L_solved : GoodIn wsL_law wsL_solved := goodIn_ca (goodIn_r _ [544, 160, 545, 546, 547, 2, 548, 16, 20, 165, 166, 167, 168, 169, 170, 171, 172, 173, 15, 174, 175, 138, 139, 140, 66, 67, 184, 181, 182, 183, 29, 82, 83, 463, 464, 465, 19, 466, 94, 91, 92, 93, 88, 467, 468, 469, 470, 33, 34, 402, 403, 404, 405, 390, 391, 392, 32, 393, 59, 406, 345, 346, 347, 58, 60, 259, 57, 258, 260, 261, 262, 263, 264, 56, 61, 265, 266, 267, 268, 269, 108, 109, 110, 111, 112, 113, 270, 271, 272, 28, 273, 39, 386, 387, 388, 389, 471, 472, 473, 474, 89, 475, 476, 251, 252, 253, 68, 69, 477, 478, 479, 480, 481, 482, 483, 90, 484, 227, 228, 229, 485, 247, 248, 249, 250, 254, 255, 256, 257, 486, 487, 488, 489, 490, 491, 492, 493, 280, 281, 494, 231, 232, 233, 549, 550, 551, 552, 619, 620, 633, 634, 635, 636, 637, 638, 639, 640, 641, 642, 643, 644, 646, 647, 648, 649, 650, 651, 652, 653, 654, 645] (by decide +kernel) (by decide +kernel)) (goodIn_sub (fun _ h => List.mem_append_left _ (List.mem_append_right _ h)) (by decide +kernel))
set_option maxRecDepth 20000 in
theorem gL_law_L_solved : GoodIn wsL_law (va_wsS RL 110 yL_solved wsL_solved) := goodIn_app (goodIn_of _ (by decide +kernel)) ggL_law_L_solved
set_option maxRecDepth 20000 in
theorem ggL_law_X5_solved : GoodIn wsL_law wsX5_solved := goodIn_r _ [556, 145, 189, 190, 191, 5, 192, 99, 100, 146, 147, 148, 557, 558, 559, 560, 509, 508, 101, 106, 503, 504, 505, 506, 507, 510, 511, 512, 513, 298, 299, 300, 301, 102, 302, 303, 304, 305, 103, 306, 307, 308, 309, 310, 311, 312, 313, 114, 115, 116, 314, 315, 316, 317, 105, 104, 514, 515, 516, 517, 518, 519, 520, 521, 522, 523, 524, 525, 294, 295, 296, 297, 149, 150, 151, 152, 621, 622, 623, 624, 625, 626, 627, 628, 629, 630, 631, 632] (by decide +kernel) (by decide +kernel)
set_option maxRecDepth 20000 in
theorem gL_law_X5_solved : GoodIn wsL_law (wsV RL 112 RX5 yX5_solved wsX5_solved) := goodIn_app (goodIn_of _ (by decide +kernel)) ggL_law_X5_solved
set_option maxRecDepth 20000 in
theorem ggL_law_X4_next : GoodIn wsL_law wsX4_next := goodIn_r _ [564, 16, 565, 566, 567, 15, 568, 175, 138, 139, 140, 66, 67, 246, 247, 248, 249, 33, 34, 250, 251, 252, 253, 29, 82, 2, 83, 254, 255, 256, 32, 257, 59, 258, 58, 60, 259, 260, 57, 261, 262, 263, 264, 56, 61, 265, 266, 267, 268, 269, 108, 109, 110, 111, 112, 113, 270, 271, 272, 28, 273, 39, 274, 619, 620, 633, 634, 635, 636, 637, 646, 647, 648, 649, 650, 651, 652, 653, 654, 645] (by decide +kernel) (by decide +kernel)
set_option maxRecDepth 20000 in
theorem gL_law_X4_next : GoodIn wsL_law (wsV RL 113 RX4 yX4_next wsX4_next) := goodIn_app (goodIn_of _ (by decide +kernel)) ggL_law_X4_next
set_option maxRecDepth 20000 in
theorem ggL_law_X5_next : GoodIn wsL_law wsX5_next := goodIn_r _ [572, 145, 99, 100, 101, 290, 291, 292, 5, 293, 294, 295, 296, 297, 298, 299, 300, 301, 102, 302, 303, 304, 305, 103, 306, 307, 308, 309, 310, 311, 312, 313, 114, 115, 116, 314, 315, 316, 317, 105, 104, 107, 108, 109, 110, 111, 112, 113, 621, 622, 623, 624, 625, 626, 627, 628, 629, 630, 631, 632] (by decide +kernel) (by decide +kernel)
set_option maxRecDepth 20000 in
theorem gL_law_X5_next : GoodIn wsL_law (wsV RL 116 RX5 yX5_next wsX5_next) := goodIn_app (goodIn_of _ (by decide +kernel)) ggL_law_X5_next
set_option maxRecDepth 20000 in
theorem ggL_law_L_would : GoodIn wsL_law wsL_would := goodIn_ca (goodIn_ca (goodIn_ca (goodIn_r _ [575, 160, 125, 215, 576, 577, 578, 2, 579, 130, 131, 16, 20, 165, 166, 167, 168, 169, 170, 171, 172, 173, 15, 174, 175, 138, 139, 140, 66, 67, 220, 221, 222, 223, 224, 225, 184, 181, 182, 183, 29, 82, 83, 226, 227, 228, 229, 230, 231, 232, 233, 68, 69, 132, 133, 134, 19, 135, 94, 463, 464, 465, 466, 91, 92, 93, 88, 467, 468, 469, 470, 33, 34, 402, 403, 404, 405, 390, 391, 392, 32, 393, 59, 406, 345, 346, 347, 58, 60, 259, 57, 258, 260, 261, 262, 263, 264, 56, 61, 265, 266, 267, 268, 269, 108, 109, 110, 111, 112, 113, 270, 271, 272, 28, 273, 39, 386, 387, 388, 389, 471, 472, 473, 474, 89, 475, 476, 251, 252, 253, 477, 478, 479, 480, 481, 482, 483, 90, 484, 485, 247, 248, 249, 250, 254, 255, 256, 257, 486, 487, 488, 489, 490, 491, 492, 493, 280, 281, 494, 495, 496, 497, 498, 619, 620, 633, 634, 635, 636, 637, 638, 639, 640, 641, 642, 643, 644, 646, 647, 648, 649, 650, 651, 652, 653, 654, 645] (by decide +kernel) (by decide +kernel)) (goodIn_sub (fun _ h => List.mem_append_left _ (List.mem_append_left _ (List.mem_append_right _ h))) (by decide +kernel))) (goodIn_sub (fun _ h => List.mem_append_left _ (List.mem_append_right _ h)) (by decide +kernel))) (goodIn_sub (fun _ h => List.mem_append_right _ h) (by decide +kernel))
set_option maxRecDepth 20000 in
theorem gL_law_L_would : GoodIn wsL_law (va_wsS RL 117 yL_would wsL_would) := goodIn_app (goodIn_of _ (by decide +kernel)) ggL_law_L_would
set_option maxRecDepth 20000 in
theorem ggL_law_X5_would : GoodIn wsL_law wsX5_would := goodIn_r _ [583, 145, 101, 189, 190, 191, 5, 192, 99, 100, 146, 147, 148, 149, 150, 151, 152, 503, 504, 505, 506, 507, 508, 509, 106, 510, 511, 512, 513, 298, 299, 300, 301, 102, 302, 303, 304, 305, 103, 306, 307, 308, 309, 310, 311, 312, 313, 114, 115, 116, 314, 315, 316, 317, 105, 104, 514, 515, 516, 517, 518, 519, 520, 521, 522, 523, 524, 525, 294, 295, 296, 297, 526, 527, 528, 529, 621, 622, 623, 624, 625, 626, 627, 628, 629, 630, 631, 632] (by decide +kernel) (by decide +kernel)
set_option maxRecDepth 20000 in
theorem gL_law_X5_would : GoodIn wsL_law (wsV RL 119 RX5 yX5_would wsX5_would) := goodIn_app (goodIn_of _ (by decide +kernel)) ggL_law_X5_would
set_option maxRecDepth 20000 in
theorem ggL_law_X4_mean : GoodIn wsL_law wsX4_mean := goodIn_r _ [587, 16, 588, 589, 590, 15, 591, 175, 138, 139, 140, 66, 67, 250, 251, 252, 253, 29, 82, 2, 83, 246, 247, 248, 249, 33, 34, 254, 255, 256, 32, 257, 59, 258, 58, 60, 259, 260, 57, 261, 262, 263, 264, 56, 61, 265, 266, 267, 268, 269, 108, 109, 110, 111, 112, 113, 270, 271, 272, 28, 273, 39, 274, 619, 620, 633, 634, 635, 636, 637, 646, 647, 648, 649, 650, 651, 652, 653, 654, 645] (by decide +kernel) (by decide +kernel)
set_option maxRecDepth 20000 in
theorem gL_law_X4_mean : GoodIn wsL_law (wsV RL 120 RX4 yX4_mean wsX4_mean) := goodIn_app (goodIn_of _ (by decide +kernel)) ggL_law_X4_mean
set_option maxRecDepth 20000 in
theorem ggL_law_X5_mean : GoodIn wsL_law wsX5_mean := goodIn_r _ [595, 145, 99, 100, 101, 290, 291, 292, 5, 293, 294, 295, 296, 297, 298, 299, 300, 301, 102, 302, 303, 304, 305, 103, 306, 307, 308, 309, 310, 311, 312, 313, 114, 115, 116, 314, 315, 316, 317, 105, 104, 107, 108, 109, 110, 111, 112, 113, 621, 622, 623, 624, 625, 626, 627, 628, 629, 630, 631, 632] (by decide +kernel) (by decide +kernel)
set_option maxRecDepth 20000 in
theorem gL_law_X5_mean : GoodIn wsL_law (wsV RL 124 RX5 yX5_mean wsX5_mean) := goodIn_app (goodIn_of _ (by decide +kernel)) ggL_law_X5_mean
set_option maxRecDepth 20000 in
theorem ggL_law_X4_digest : GoodIn wsL_law wsX4_digest := goodIn_r _ [599, 600, 16, 20, 374, 375, 376, 15, 377, 66, 33, 34, 175, 138, 139, 140, 67, 378, 379, 380, 381, 180, 181, 182, 183, 29, 82, 2, 83, 382, 383, 384, 385, 386, 387, 388, 389, 390, 391, 392, 32, 393, 59, 394, 395, 396, 397, 398, 399, 400, 401, 58, 402, 403, 404, 405, 406, 345, 346, 347, 60, 259, 57, 258, 260, 261, 262, 263, 264, 56, 61, 265, 266, 267, 268, 269, 108, 109, 110, 111, 112, 113, 270, 271, 272, 28, 273, 39, 407, 408, 409, 410, 250, 251, 252, 253, 246, 247, 248, 249, 254, 255, 256, 257, 274, 601, 602, 603, 604, 137, 605, 606, 607, 608, 226, 227, 228, 229, 200, 201, 202, 203, 609, 275, 610, 611, 612, 340, 341, 342, 343, 344, 463, 464, 465, 19, 466, 94, 91, 92, 93, 88, 467, 468, 469, 470, 471, 472, 473, 474, 89, 475, 476, 68, 69, 477, 478, 479, 480, 481, 482, 483, 90, 484, 485, 486, 487, 488, 489, 490, 491, 492, 493, 280, 281, 494, 231, 232, 233, 495, 496, 497, 498, 534, 535, 536, 537, 619, 620, 633, 634, 635, 636, 637, 646, 647, 648, 649, 650, 651, 652, 653, 654, 645, 638, 639, 640, 641, 642, 643, 644] (by decide +kernel) (by decide +kernel)
set_option maxRecDepth 20000 in
theorem gL_law_X4_digest : GoodIn wsL_law (wsV RL 125 RX4 yX4_digest wsX4_digest) := goodIn_app (goodIn_of _ (by decide +kernel)) ggL_law_X4_digest
set_option maxRecDepth 20000 in
theorem ggL_law_X5_digest : GoodIn wsL_law wsX5_digest := goodIn_r _ [616, 145, 617, 618, 99, 100, 101, 102, 507, 415, 416, 417, 5, 418, 419, 420, 421, 422, 302, 303, 304, 305, 103, 298, 299, 300, 301, 306, 307, 308, 309, 310, 311, 312, 313, 114, 115, 116, 314, 315, 316, 317, 105, 104, 290, 291, 292, 293, 294, 295, 296, 297, 107, 108, 109, 110, 111, 112, 113, 352, 353, 354, 355, 503, 504, 505, 506, 508, 509, 106, 510, 511, 512, 513, 514, 515, 516, 517, 518, 519, 520, 521, 522, 523, 524, 525, 526, 527, 528, 529, 621, 622, 623, 624, 625, 626, 627, 628, 629, 630, 631, 632] (by decide +kernel) (by decide +kernel)
set_option maxRecDepth 20000 in
theorem gL_law_X5_digest : GoodIn wsL_law (wsV RL 129 RX5 yX5_digest wsX5_digest) := goodIn_app (goodIn_of _ (by decide +kernel)) ggL_law_X5_digest
