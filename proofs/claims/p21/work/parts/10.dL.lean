theorem dL_below_0 : decode cL_below 0 = .ok (.iload_n 0, 1) := by decide +kernel
theorem dL_below_1 : decode cL_below 1 = .ok (.ldc 7, 2) := by decide +kernel
theorem dL_below_3 : decode cL_below 3 = .ok (.iand, 1) := by decide +kernel
theorem dL_below_4 : decode cL_below 4 = .ok (.iload_n 1, 1) := by decide +kernel
theorem dL_below_5 : decode cL_below 5 = .ok (.irem, 1) := by decide +kernel
theorem dL_below_6 : decode cL_below 6 = .ok (.ireturn, 1) := by decide +kernel
theorem dL_cell_0 : decode cL_cell 0 = .ok (.iload_n 1, 1) := by decide +kernel
theorem dL_cell_1 : decode cL_cell 1 = .ok (.aload_n 0, 1) := by decide +kernel
theorem dL_cell_2 : decode cL_cell 2 = .ok (.arraylength, 1) := by decide +kernel
theorem dL_cell_3 : decode cL_cell 3 = .ok (.if_icmp .ge 9, 3) := by decide +kernel
theorem dL_cell_6 : decode cL_cell 6 = .ok (.aload_n 0, 1) := by decide +kernel
theorem dL_cell_7 : decode cL_cell 7 = .ok (.iload_n 1, 1) := by decide +kernel
theorem dL_cell_8 : decode cL_cell 8 = .ok (.iaload, 1) := by decide +kernel
theorem dL_cell_9 : decode cL_cell 9 = .ok (.goto 9, 3) := by decide +kernel
theorem dL_cell_12 : decode cL_cell 12 = .ok (.ldc 8, 2) := by decide +kernel
theorem dL_cell_14 : decode cL_cell 14 = .ok (.iload_n 1, 1) := by decide +kernel
theorem dL_cell_15 : decode cL_cell 15 = .ok (.iconst 3, 1) := by decide +kernel
theorem dL_cell_16 : decode cL_cell 16 = .ok (.iadd, 1) := by decide +kernel
theorem dL_cell_17 : decode cL_cell 17 = .ok (.imul, 1) := by decide +kernel
theorem dL_cell_18 : decode cL_cell 18 = .ok (.ireturn, 1) := by decide +kernel
set_option maxRecDepth 20000 in
theorem ggL_act_L_below : GoodIn wsL_act wsL_below := goodIn_r _ [12, 13] (by decide +kernel) (by decide +kernel)
set_option maxRecDepth 20000 in
theorem gL_act_L_below : GoodIn wsL_act (va_wsS RL 18 yL_below wsL_below) := goodIn_app (goodIn_of _ (by decide +kernel)) ggL_act_L_below
set_option maxRecDepth 20000 in
theorem ggL_act_X4_setFloor : GoodIn wsL_act wsX4_setFloor := goodIn_ca (goodIn_r _ [18, 19, 20, 21, 22, 23, 24, 25, 26, 27, 28, 29, 30, 31, 32, 33, 34, 35, 36, 37, 38, 39, 17, 40, 41, 42, 43, 44, 45, 46, 47, 48, 49, 50, 51, 52, 53, 54, 55, 56, 57, 58, 59, 60, 61, 62, 63, 64, 165, 166, 167, 168, 169, 170, 171, 172, 173, 174, 175, 176, 177, 178, 179, 180, 181, 182, 183, 184, 185, 186, 187] (by decide +kernel) (by decide +kernel)) (goodIn_sub (fun _ h => List.mem_cons_of_mem _ (List.mem_append_left _ (List.mem_append_left _ (List.mem_append_right _ h)))) (by decide +kernel))
set_option maxRecDepth 20000 in
theorem gL_act_X4_setFloor : GoodIn wsL_act (wsV RL 35 RX4 yX4_setFloor wsX4_setFloor) := goodIn_app (goodIn_of _ (by decide +kernel)) ggL_act_X4_setFloor
set_option maxRecDepth 20000 in
theorem ggL_act_X4_pillar : GoodIn wsL_act wsX4_pillar := goodIn_ca (goodIn_r _ [68, 21, 22, 69, 70, 71, 17, 72, 73, 74, 75, 76, 77, 32, 78, 79, 62, 63, 64, 34, 35, 23, 24, 25, 26, 27, 28, 80, 81, 82, 83, 36, 84, 85, 86, 87, 59, 60, 39, 40, 48, 49, 50, 51, 37, 38, 52, 53, 54, 44, 55, 56, 57, 58, 88, 165, 166, 174, 175, 176, 177, 178, 167, 168, 169, 170, 171, 172, 173, 179, 180, 181, 182, 183, 184, 185, 186, 187] (by decide +kernel) (by decide +kernel)) (goodIn_sub (fun _ h => List.mem_cons_of_mem _ (List.mem_append_left _ (List.mem_append_right _ h))) (by decide +kernel))
set_option maxRecDepth 20000 in
theorem gL_act_X4_pillar : GoodIn wsL_act (wsV RL 40 RX4 yX4_pillar wsX4_pillar) := goodIn_app (goodIn_of _ (by decide +kernel)) ggL_act_X4_pillar
set_option maxRecDepth 20000 in
theorem ggL_act_X5_corridor : GoodIn wsL_act wsX5_corridor := goodIn_r _ [93, 6, 94, 95, 96, 97, 98, 92, 99, 157, 158, 159, 160, 161, 162, 163, 164] (by decide +kernel) (by decide +kernel)
set_option maxRecDepth 20000 in
theorem gL_act_X5_corridor : GoodIn wsL_act (wsV RL 44 RX5 yX5_corridor wsX5_corridor) := goodIn_app (goodIn_of _ (by decide +kernel)) ggL_act_X5_corridor
set_option maxRecDepth 20000 in
theorem ggL_act_X4_setSum : GoodIn wsL_act wsX4_setSum := goodIn_ca (goodIn_ca (goodIn_r _ [103, 19, 20, 21, 22, 69, 70, 71, 17, 72, 73, 74, 75, 76, 77, 32, 78, 79, 62, 63, 64, 34, 35, 23, 24, 25, 26, 27, 28, 104, 105, 106, 107, 38, 37, 108, 109, 110, 44, 111, 47, 59, 60, 39, 40, 165, 166, 174, 175, 176, 177, 178, 167, 168, 169, 170, 171, 172, 173, 179, 180, 181, 182, 183, 184, 185, 186, 187] (by decide +kernel) (by decide +kernel)) (goodIn_sub (fun _ h => List.mem_cons_of_mem _ (List.mem_append_left _ (List.mem_append_left _ (List.mem_append_right _ h)))) (by decide +kernel))) (goodIn_sub (fun _ h => List.mem_cons_of_mem _ (List.mem_append_left _ (List.mem_append_right _ h))) (by decide +kernel))
set_option maxRecDepth 20000 in
theorem gL_act_X4_setSum : GoodIn wsL_act (wsV RL 48 RX4 yX4_setSum wsX4_setSum) := goodIn_app (goodIn_of _ (by decide +kernel)) ggL_act_X4_setSum
set_option maxRecDepth 20000 in
theorem ggL_act_X5_can : GoodIn wsL_act wsX5_can := goodIn_r _ [115, 96, 116, 117, 118, 92, 119, 120, 90, 91, 93, 6, 94, 95, 97, 98, 99, 121, 122, 123, 124, 125, 126, 127, 128, 129, 130, 131, 132, 133, 134, 135, 136, 137, 138, 157, 158, 159, 160, 161, 162, 163, 164] (by decide +kernel) (by decide +kernel)
set_option maxRecDepth 20000 in
theorem gL_act_X5_can : GoodIn wsL_act (wsV RL 52 RX5 yX5_can wsX5_can) := goodIn_app (goodIn_of _ (by decide +kernel)) ggL_act_X5_can
set_option maxRecDepth 20000 in
theorem ggL_act_X4_put : GoodIn wsL_act wsX4_put := goodIn_ca (goodIn_ca (goodIn_ca (goodIn_r _ [142, 19, 20, 22, 21, 69, 70, 71, 17, 72, 73, 74, 75, 76, 77, 32, 78, 79, 62, 63, 64, 34, 35, 143, 144, 145, 146, 147, 148, 88, 85, 86, 87, 36, 59, 60, 149, 150, 151, 152, 23, 24, 25, 26, 27, 28, 153, 154, 155, 156, 39, 40, 165, 166, 174, 175, 176, 177, 178, 167, 168, 169, 170, 171, 172, 173] (by decide +kernel) (by decide +kernel)) (goodIn_sub (fun _ h => List.mem_cons_of_mem _ (List.mem_append_left _ (List.mem_append_left _ (List.mem_append_right _ h)))) (by decide +kernel))) (goodIn_sub (fun _ h => List.mem_cons_of_mem _ (List.mem_append_left _ (List.mem_append_right _ h))) (by decide +kernel))) (goodIn_sub (fun _ h => List.mem_cons_of_mem _ (List.mem_append_right _ h)) (by decide +kernel))
set_option maxRecDepth 20000 in
theorem gL_act_X4_put : GoodIn wsL_act (wsV RL 55 RX4 yX4_put wsX4_put) := goodIn_app (goodIn_of _ (by decide +kernel)) ggL_act_X4_put
theorem dL_act_0 : decode cL_act 0 = .ok (.iload_n 2, 1) := by decide +kernel
theorem dL_act_1 : decode cL_act 1 = .ok (.iconst 3, 1) := by decide +kernel
theorem dL_act_2 : decode cL_act 2 = .ok (.ishr, 1) := by decide +kernel
theorem dL_act_3 : decode cL_act 3 = .ok (.aload_n 1, 1) := by decide +kernel
theorem dL_act_4 : decode cL_act 4 = .ok (.getfield 9, 3) := by decide +kernel
theorem dL_act_7 : decode cL_act 7 = .ok (.aload_n 1, 1) := by decide +kernel
theorem dL_act_8 : decode cL_act 8 = .ok (.getfield 15, 3) := by decide +kernel
theorem dL_act_11 : decode cL_act 11 = .ok (.imul, 1) := by decide +kernel
theorem dL_act_12 : decode cL_act 12 = .ok (.invokestatic 18, 3) := by decide +kernel
theorem dL_act_15 : decode cL_act 15 = .ok (.istore_n 3, 1) := by decide +kernel
theorem dL_act_16 : decode cL_act 16 = .ok (.aload_n 1, 1) := by decide +kernel
theorem dL_act_17 : decode cL_act 17 = .ok (.getfield 24, 3) := by decide +kernel
theorem dL_act_20 : decode cL_act 20 = .ok (.iload_n 3, 1) := by decide +kernel
theorem dL_act_21 : decode cL_act 21 = .ok (.aload_n 1, 1) := by decide +kernel
theorem dL_act_22 : decode cL_act 22 = .ok (.getfield 9, 3) := by decide +kernel
theorem dL_act_25 : decode cL_act 25 = .ok (.idiv, 1) := by decide +kernel
theorem dL_act_26 : decode cL_act 26 = .ok (.aaload, 1) := by decide +kernel
theorem dL_act_27 : decode cL_act 27 = .ok (.astore 4, 2) := by decide +kernel
theorem dL_act_29 : decode cL_act 29 = .ok (.iload_n 3, 1) := by decide +kernel
theorem dL_act_30 : decode cL_act 30 = .ok (.aload_n 1, 1) := by decide +kernel
theorem dL_act_31 : decode cL_act 31 = .ok (.getfield 9, 3) := by decide +kernel
theorem dL_act_34 : decode cL_act 34 = .ok (.irem, 1) := by decide +kernel
theorem dL_act_35 : decode cL_act 35 = .ok (.istore 5, 2) := by decide +kernel
theorem dL_act_37 : decode cL_act 37 = .ok (.iload_n 2, 1) := by decide +kernel
theorem dL_act_38 : decode cL_act 38 = .ok (.bipush 14, 2) := by decide +kernel
theorem dL_act_40 : decode cL_act 40 = .ok (.invokestatic 18, 3) := by decide +kernel
theorem dL_act_43 : decode cL_act 43 = .ok (.tableswitch 438 0 7 #[45, 163, 163, 163, 208, 208, 208, 208], 45) := by decide +kernel
theorem dL_act_88 : decode cL_act 88 = .ok (.iload_n 2, 1) := by decide +kernel
theorem dL_act_89 : decode cL_act 89 = .ok (.iconst 4, 1) := by decide +kernel
theorem dL_act_90 : decode cL_act 90 = .ok (.ishr, 1) := by decide +kernel
theorem dL_act_91 : decode cL_act 91 = .ok (.iconst 4, 1) := by decide +kernel
theorem dL_act_92 : decode cL_act 92 = .ok (.invokestatic 18, 3) := by decide +kernel
theorem dL_act_95 : decode cL_act 95 = .ok (.ifCond .le 5, 3) := by decide +kernel
theorem dL_act_98 : decode cL_act 98 = .ok (.iconst 1, 1) := by decide +kernel
theorem dL_act_99 : decode cL_act 99 = .ok (.ireturn, 1) := by decide +kernel
theorem dL_act_100 : decode cL_act 100 = .ok (.aload_n 1, 1) := by decide +kernel
theorem dL_act_101 : decode cL_act 101 = .ok (.iconst 2, 1) := by decide +kernel
theorem dL_act_102 : decode cL_act 102 = .ok (.iload_n 2, 1) := by decide +kernel
theorem dL_act_103 : decode cL_act 103 = .ok (.bipush 6, 2) := by decide +kernel
theorem dL_act_105 : decode cL_act 105 = .ok (.ishr, 1) := by decide +kernel
theorem dL_act_106 : decode cL_act 106 = .ok (.iconst 5, 1) := by decide +kernel
theorem dL_act_107 : decode cL_act 107 = .ok (.invokestatic 18, 3) := by decide +kernel
theorem dL_act_110 : decode cL_act 110 = .ok (.iadd, 1) := by decide +kernel
theorem dL_act_111 : decode cL_act 111 = .ok (.putfield 9, 3) := by decide +kernel
theorem dL_act_114 : decode cL_act 114 = .ok (.aload_n 1, 1) := by decide +kernel
theorem dL_act_115 : decode cL_act 115 = .ok (.iconst 2, 1) := by decide +kernel
theorem dL_act_116 : decode cL_act 116 = .ok (.iload_n 2, 1) := by decide +kernel
theorem dL_act_117 : decode cL_act 117 = .ok (.bipush 9, 2) := by decide +kernel
theorem dL_act_119 : decode cL_act 119 = .ok (.ishr, 1) := by decide +kernel
theorem dL_act_120 : decode cL_act 120 = .ok (.iconst 5, 1) := by decide +kernel
theorem dL_act_121 : decode cL_act 121 = .ok (.invokestatic 18, 3) := by decide +kernel
theorem dL_act_124 : decode cL_act 124 = .ok (.iadd, 1) := by decide +kernel
theorem dL_act_125 : decode cL_act 125 = .ok (.putfield 15, 3) := by decide +kernel
theorem dL_act_128 : decode cL_act 128 = .ok (.aload_n 1, 1) := by decide +kernel
theorem dL_act_129 : decode cL_act 129 = .ok (.aload_n 1, 1) := by decide +kernel
theorem dL_act_130 : decode cL_act 130 = .ok (.getfield 15, 3) := by decide +kernel
theorem dL_act_133 : decode cL_act 133 = .ok (.aload_n 1, 1) := by decide +kernel
theorem dL_act_134 : decode cL_act 134 = .ok (.getfield 9, 3) := by decide +kernel
theorem dL_act_137 : decode cL_act 137 = .ok (.multianewarray 28 2, 4) := by decide +kernel
theorem dL_act_141 : decode cL_act 141 = .ok (.putfield 24, 3) := by decide +kernel
theorem dL_act_144 : decode cL_act 144 = .ok (.aload_n 1, 1) := by decide +kernel
theorem dL_act_145 : decode cL_act 145 = .ok (.aload_n 1, 1) := by decide +kernel
theorem dL_act_146 : decode cL_act 146 = .ok (.getfield 15, 3) := by decide +kernel
theorem dL_act_149 : decode cL_act 149 = .ok (.aload_n 1, 1) := by decide +kernel
theorem dL_act_150 : decode cL_act 150 = .ok (.getfield 9, 3) := by decide +kernel
theorem dL_act_153 : decode cL_act 153 = .ok (.multianewarray 28 2, 4) := by decide +kernel
theorem dL_act_157 : decode cL_act 157 = .ok (.putfield 29, 3) := by decide +kernel
theorem dL_act_160 : decode cL_act 160 = .ok (.aload_n 1, 1) := by decide +kernel
theorem dL_act_161 : decode cL_act 161 = .ok (.aload_n 1, 1) := by decide +kernel
theorem dL_act_162 : decode cL_act 162 = .ok (.getfield 15, 3) := by decide +kernel
theorem dL_act_165 : decode cL_act 165 = .ok (.aload_n 1, 1) := by decide +kernel
theorem dL_act_166 : decode cL_act 166 = .ok (.getfield 9, 3) := by decide +kernel
theorem dL_act_169 : decode cL_act 169 = .ok (.multianewarray 28 2, 4) := by decide +kernel
theorem dL_act_173 : decode cL_act 173 = .ok (.putfield 32, 3) := by decide +kernel
theorem dL_act_176 : decode cL_act 176 = .ok (.aload_n 0, 1) := by decide +kernel
theorem dL_act_177 : decode cL_act 177 = .ok (.aload_n 1, 1) := by decide +kernel
theorem dL_act_178 : decode cL_act 178 = .ok (.getfield 9, 3) := by decide +kernel
theorem dL_act_181 : decode cL_act 181 = .ok (.aload_n 1, 1) := by decide +kernel
theorem dL_act_182 : decode cL_act 182 = .ok (.getfield 15, 3) := by decide +kernel
theorem dL_act_185 : decode cL_act 185 = .ok (.invokevirtual 35, 3) := by decide +kernel
theorem dL_act_188 : decode cL_act 188 = .ok (.aload_n 1, 1) := by decide +kernel
theorem dL_act_189 : decode cL_act 189 = .ok (.getfield 9, 3) := by decide +kernel
theorem dL_act_192 : decode cL_act 192 = .ok (.aload_n 1, 1) := by decide +kernel
theorem dL_act_193 : decode cL_act 193 = .ok (.getfield 15, 3) := by decide +kernel
theorem dL_act_196 : decode cL_act 196 = .ok (.imul, 1) := by decide +kernel
theorem dL_act_197 : decode cL_act 197 = .ok (.if_icmp .ne 7, 3) := by decide +kernel
theorem dL_act_200 : decode cL_act 200 = .ok (.iconst 1, 1) := by decide +kernel
theorem dL_act_201 : decode cL_act 201 = .ok (.goto 4, 3) := by decide +kernel
theorem dL_act_204 : decode cL_act 204 = .ok (.iconst 0, 1) := by decide +kernel
theorem dL_act_205 : decode cL_act 205 = .ok (.ireturn, 1) := by decide +kernel
theorem dL_act_206 : decode cL_act 206 = .ok (.aload 4, 2) := by decide +kernel
theorem dL_act_208 : decode cL_act 208 = .ok (.iload 5, 2) := by decide +kernel
theorem dL_act_210 : decode cL_act 210 = .ok (.aload 4, 2) := by decide +kernel
theorem dL_act_212 : decode cL_act 212 = .ok (.iload 5, 2) := by decide +kernel
theorem dL_act_214 : decode cL_act 214 = .ok (.iaload, 1) := by decide +kernel
theorem dL_act_215 : decode cL_act 215 = .ok (.ifCond .ge 7, 3) := by decide +kernel
theorem dL_act_218 : decode cL_act 218 = .ok (.iconst 0, 1) := by decide +kernel
theorem dL_act_219 : decode cL_act 219 = .ok (.goto 4, 3) := by decide +kernel
theorem dL_act_222 : decode cL_act 222 = .ok (.iconst (-1), 1) := by decide +kernel
theorem dL_act_223 : decode cL_act 223 = .ok (.iastore, 1) := by decide +kernel
theorem dL_act_224 : decode cL_act 224 = .ok (.aload_n 0, 1) := by decide +kernel
theorem dL_act_225 : decode cL_act 225 = .ok (.iload_n 3, 1) := by decide +kernel
theorem dL_act_226 : decode cL_act 226 = .ok (.invokevirtual 40, 3) := by decide +kernel
theorem dL_act_229 : decode cL_act 229 = .ok (.aload 4, 2) := by decide +kernel
theorem dL_act_231 : decode cL_act 231 = .ok (.iload 5, 2) := by decide +kernel
theorem dL_act_233 : decode cL_act 233 = .ok (.iaload, 1) := by decide +kernel
theorem dL_act_234 : decode cL_act 234 = .ok (.ifCond .ge 7, 3) := by decide +kernel
theorem dL_act_237 : decode cL_act 237 = .ok (.iconst 1, 1) := by decide +kernel
theorem dL_act_238 : decode cL_act 238 = .ok (.goto 4, 3) := by decide +kernel
theorem dL_act_241 : decode cL_act 241 = .ok (.iconst 0, 1) := by decide +kernel
theorem dL_act_242 : decode cL_act 242 = .ok (.if_icmp .ne 7, 3) := by decide +kernel
theorem dL_act_245 : decode cL_act 245 = .ok (.iconst 1, 1) := by decide +kernel
theorem dL_act_246 : decode cL_act 246 = .ok (.goto 4, 3) := by decide +kernel
theorem dL_act_249 : decode cL_act 249 = .ok (.iconst 0, 1) := by decide +kernel
theorem dL_act_250 : decode cL_act 250 = .ok (.ireturn, 1) := by decide +kernel
theorem dL_act_251 : decode cL_act 251 = .ok (.iload_n 2, 1) := by decide +kernel
theorem dL_act_252 : decode cL_act 252 = .ok (.bipush 7, 2) := by decide +kernel
theorem dL_act_254 : decode cL_act 254 = .ok (.ishr, 1) := by decide +kernel
theorem dL_act_255 : decode cL_act 255 = .ok (.iconst 2, 1) := by decide +kernel
theorem dL_act_256 : decode cL_act 256 = .ok (.invokestatic 18, 3) := by decide +kernel
theorem dL_act_259 : decode cL_act 259 = .ok (.ifCond .ne 7, 3) := by decide +kernel
theorem dL_act_262 : decode cL_act 262 = .ok (.iconst 1, 1) := by decide +kernel
theorem dL_act_263 : decode cL_act 263 = .ok (.goto 4, 3) := by decide +kernel
theorem dL_act_266 : decode cL_act 266 = .ok (.iconst 0, 1) := by decide +kernel
theorem dL_act_267 : decode cL_act 267 = .ok (.istore 6, 2) := by decide +kernel
theorem dL_act_269 : decode cL_act 269 = .ok (.aload 4, 2) := by decide +kernel
theorem dL_act_271 : decode cL_act 271 = .ok (.iload 5, 2) := by decide +kernel
theorem dL_act_273 : decode cL_act 273 = .ok (.iaload, 1) := by decide +kernel
theorem dL_act_274 : decode cL_act 274 = .ok (.ifCond .lt 31, 3) := by decide +kernel
theorem dL_act_277 : decode cL_act 277 = .ok (.iload_n 2, 1) := by decide +kernel
theorem dL_act_278 : decode cL_act 278 = .ok (.iconst 5, 1) := by decide +kernel
theorem dL_act_279 : decode cL_act 279 = .ok (.ishr, 1) := by decide +kernel
theorem dL_act_280 : decode cL_act 280 = .ok (.bipush 6, 2) := by decide +kernel
theorem dL_act_282 : decode cL_act 282 = .ok (.invokestatic 18, 3) := by decide +kernel
theorem dL_act_285 : decode cL_act 285 = .ok (.ifCond .le 20, 3) := by decide +kernel
theorem dL_act_288 : decode cL_act 288 = .ok (.aload_n 1, 1) := by decide +kernel
theorem dL_act_289 : decode cL_act 289 = .ok (.iload 5, 2) := by decide +kernel
theorem dL_act_291 : decode cL_act 291 = .ok (.iload_n 3, 1) := by decide +kernel
theorem dL_act_292 : decode cL_act 292 = .ok (.aload_n 1, 1) := by decide +kernel
theorem dL_act_293 : decode cL_act 293 = .ok (.getfield 9, 3) := by decide +kernel
theorem dL_act_296 : decode cL_act 296 = .ok (.idiv, 1) := by decide +kernel
theorem dL_act_297 : decode cL_act 297 = .ok (.iload 6, 2) := by decide +kernel
theorem dL_act_299 : decode cL_act 299 = .ok (.invokevirtual 44, 3) := by decide +kernel
theorem dL_act_302 : decode cL_act 302 = .ok (.iconst 0, 1) := by decide +kernel
theorem dL_act_303 : decode cL_act 303 = .ok (.iaload, 1) := by decide +kernel
theorem dL_act_304 : decode cL_act 304 = .ok (.istore_n 3, 1) := by decide +kernel
theorem dL_act_305 : decode cL_act 305 = .ok (.iload 6, 2) := by decide +kernel
theorem dL_act_307 : decode cL_act 307 = .ok (.ifCond .eq 10, 3) := by decide +kernel
theorem dL_act_310 : decode cL_act 310 = .ok (.aload_n 1, 1) := by decide +kernel
theorem dL_act_311 : decode cL_act 311 = .ok (.getfield 32, 3) := by decide +kernel
theorem dL_act_314 : decode cL_act 314 = .ok (.goto 7, 3) := by decide +kernel
theorem dL_act_317 : decode cL_act 317 = .ok (.aload_n 1, 1) := by decide +kernel
theorem dL_act_318 : decode cL_act 318 = .ok (.getfield 29, 3) := by decide +kernel
theorem dL_act_321 : decode cL_act 321 = .ok (.astore 7, 2) := by decide +kernel
theorem dL_act_323 : decode cL_act 323 = .ok (.aload 7, 2) := by decide +kernel
theorem dL_act_325 : decode cL_act 325 = .ok (.iload_n 3, 1) := by decide +kernel
theorem dL_act_326 : decode cL_act 326 = .ok (.aload_n 1, 1) := by decide +kernel
theorem dL_act_327 : decode cL_act 327 = .ok (.getfield 9, 3) := by decide +kernel
theorem dL_act_330 : decode cL_act 330 = .ok (.idiv, 1) := by decide +kernel
theorem dL_act_331 : decode cL_act 331 = .ok (.aaload, 1) := by decide +kernel
theorem dL_act_332 : decode cL_act 332 = .ok (.iload_n 3, 1) := by decide +kernel
theorem dL_act_333 : decode cL_act 333 = .ok (.aload_n 1, 1) := by decide +kernel
theorem dL_act_334 : decode cL_act 334 = .ok (.getfield 9, 3) := by decide +kernel
theorem dL_act_337 : decode cL_act 337 = .ok (.irem, 1) := by decide +kernel
theorem dL_act_338 : decode cL_act 338 = .ok (.iaload, 1) := by decide +kernel
theorem dL_act_339 : decode cL_act 339 = .ok (.istore 8, 2) := by decide +kernel
theorem dL_act_341 : decode cL_act 341 = .ok (.aload 4, 2) := by decide +kernel
theorem dL_act_343 : decode cL_act 343 = .ok (.iload 5, 2) := by decide +kernel
theorem dL_act_345 : decode cL_act 345 = .ok (.iaload, 1) := by decide +kernel
theorem dL_act_346 : decode cL_act 346 = .ok (.ifCond .ge 7, 3) := by decide +kernel
theorem dL_act_349 : decode cL_act 349 = .ok (.iconst 1, 1) := by decide +kernel
theorem dL_act_350 : decode cL_act 350 = .ok (.goto 32, 3) := by decide +kernel
theorem dL_act_353 : decode cL_act 353 = .ok (.aload_n 1, 1) := by decide +kernel
theorem dL_act_354 : decode cL_act 354 = .ok (.iload 5, 2) := by decide +kernel
theorem dL_act_356 : decode cL_act 356 = .ok (.iload_n 2, 1) := by decide +kernel
theorem dL_act_357 : decode cL_act 357 = .ok (.iconst 3, 1) := by decide +kernel
theorem dL_act_358 : decode cL_act 358 = .ok (.ishr, 1) := by decide +kernel
theorem dL_act_359 : decode cL_act 359 = .ok (.aload_n 1, 1) := by decide +kernel
theorem dL_act_360 : decode cL_act 360 = .ok (.getfield 9, 3) := by decide +kernel
theorem dL_act_363 : decode cL_act 363 = .ok (.aload_n 1, 1) := by decide +kernel
theorem dL_act_364 : decode cL_act 364 = .ok (.getfield 15, 3) := by decide +kernel
theorem dL_act_367 : decode cL_act 367 = .ok (.imul, 1) := by decide +kernel
theorem dL_act_368 : decode cL_act 368 = .ok (.invokestatic 18, 3) := by decide +kernel
theorem dL_act_371 : decode cL_act 371 = .ok (.aload_n 1, 1) := by decide +kernel
theorem dL_act_372 : decode cL_act 372 = .ok (.getfield 9, 3) := by decide +kernel
theorem dL_act_375 : decode cL_act 375 = .ok (.idiv, 1) := by decide +kernel
theorem dL_act_376 : decode cL_act 376 = .ok (.iload 6, 2) := by decide +kernel
theorem dL_act_378 : decode cL_act 378 = .ok (.invokevirtual 44, 3) := by decide +kernel
theorem dL_act_381 : decode cL_act 381 = .ok (.arraylength, 1) := by decide +kernel
theorem dL_act_382 : decode cL_act 382 = .ok (.istore 9, 2) := by decide +kernel
theorem dL_act_384 : decode cL_act 384 = .ok (.iload 9, 2) := by decide +kernel
theorem dL_act_386 : decode cL_act 386 = .ok (.iload 9, 2) := by decide +kernel
theorem dL_act_388 : decode cL_act 388 = .ok (.iconst 1, 1) := by decide +kernel
theorem dL_act_389 : decode cL_act 389 = .ok (.iadd, 1) := by decide +kernel
theorem dL_act_390 : decode cL_act 390 = .ok (.imul, 1) := by decide +kernel
theorem dL_act_391 : decode cL_act 391 = .ok (.iconst 2, 1) := by decide +kernel
theorem dL_act_392 : decode cL_act 392 = .ok (.idiv, 1) := by decide +kernel
theorem dL_act_393 : decode cL_act 393 = .ok (.istore 10, 2) := by decide +kernel
theorem dL_act_395 : decode cL_act 395 = .ok (.iload_n 2, 1) := by decide +kernel
theorem dL_act_396 : decode cL_act 396 = .ok (.bipush 9, 2) := by decide +kernel
theorem dL_act_398 : decode cL_act 398 = .ok (.ishr, 1) := by decide +kernel
theorem dL_act_399 : decode cL_act 399 = .ok (.bipush 8, 2) := by decide +kernel
theorem dL_act_401 : decode cL_act 401 = .ok (.invokestatic 18, 3) := by decide +kernel
theorem dL_act_404 : decode cL_act 404 = .ok (.ifCond .ne 15, 3) := by decide +kernel
theorem dL_act_407 : decode cL_act 407 = .ok (.iload_n 2, 1) := by decide +kernel
theorem dL_act_408 : decode cL_act 408 = .ok (.bipush 6, 2) := by decide +kernel
theorem dL_act_410 : decode cL_act 410 = .ok (.ishr, 1) := by decide +kernel
theorem dL_act_411 : decode cL_act 411 = .ok (.bipush 46, 2) := by decide +kernel
theorem dL_act_413 : decode cL_act 413 = .ok (.invokestatic 18, 3) := by decide +kernel
theorem dL_act_416 : decode cL_act 416 = .ok (.goto 25, 3) := by decide +kernel
theorem dL_act_419 : decode cL_act 419 = .ok (.iload 10, 2) := by decide +kernel
theorem dL_act_421 : decode cL_act 421 = .ok (.iload_n 2, 1) := by decide +kernel
theorem dL_act_422 : decode cL_act 422 = .ok (.bipush 6, 2) := by decide +kernel
theorem dL_act_424 : decode cL_act 424 = .ok (.ishr, 1) := by decide +kernel
theorem dL_act_425 : decode cL_act 425 = .ok (.bipush 10, 2) := by decide +kernel
theorem dL_act_427 : decode cL_act 427 = .ok (.iload 9, 2) := by decide +kernel
theorem dL_act_429 : decode cL_act 429 = .ok (.imul, 1) := by decide +kernel
theorem dL_act_430 : decode cL_act 430 = .ok (.iconst 2, 1) := by decide +kernel
theorem dL_act_431 : decode cL_act 431 = .ok (.iload 10, 2) := by decide +kernel
theorem dL_act_433 : decode cL_act 433 = .ok (.imul, 1) := by decide +kernel
theorem dL_act_434 : decode cL_act 434 = .ok (.isub, 1) := by decide +kernel
theorem dL_act_435 : decode cL_act 435 = .ok (.iconst 1, 1) := by decide +kernel
theorem dL_act_436 : decode cL_act 436 = .ok (.iadd, 1) := by decide +kernel
theorem dL_act_437 : decode cL_act 437 = .ok (.invokestatic 18, 3) := by decide +kernel
theorem dL_act_440 : decode cL_act 440 = .ok (.iadd, 1) := by decide +kernel
theorem dL_act_441 : decode cL_act 441 = .ok (.istore 11, 2) := by decide +kernel
theorem dL_act_443 : decode cL_act 443 = .ok (.aload 7, 2) := by decide +kernel
theorem dL_act_445 : decode cL_act 445 = .ok (.iload_n 3, 1) := by decide +kernel
theorem dL_act_446 : decode cL_act 446 = .ok (.aload_n 1, 1) := by decide +kernel
theorem dL_act_447 : decode cL_act 447 = .ok (.getfield 9, 3) := by decide +kernel
theorem dL_act_450 : decode cL_act 450 = .ok (.idiv, 1) := by decide +kernel
theorem dL_act_451 : decode cL_act 451 = .ok (.aaload, 1) := by decide +kernel
theorem dL_act_452 : decode cL_act 452 = .ok (.iload_n 3, 1) := by decide +kernel
theorem dL_act_453 : decode cL_act 453 = .ok (.aload_n 1, 1) := by decide +kernel
theorem dL_act_454 : decode cL_act 454 = .ok (.getfield 9, 3) := by decide +kernel
theorem dL_act_457 : decode cL_act 457 = .ok (.irem, 1) := by decide +kernel
theorem dL_act_458 : decode cL_act 458 = .ok (.iload 11, 2) := by decide +kernel
theorem dL_act_460 : decode cL_act 460 = .ok (.iastore, 1) := by decide +kernel
theorem dL_act_461 : decode cL_act 461 = .ok (.aload_n 0, 1) := by decide +kernel
theorem dL_act_462 : decode cL_act 462 = .ok (.iload_n 3, 1) := by decide +kernel
theorem dL_act_463 : decode cL_act 463 = .ok (.iload 6, 2) := by decide +kernel
theorem dL_act_465 : decode cL_act 465 = .ok (.iload 11, 2) := by decide +kernel
theorem dL_act_467 : decode cL_act 467 = .ok (.invokevirtual 48, 3) := by decide +kernel
theorem dL_act_470 : decode cL_act 470 = .ok (.iload 8, 2) := by decide +kernel
theorem dL_act_472 : decode cL_act 472 = .ok (.if_icmp .ne 7, 3) := by decide +kernel
theorem dL_act_475 : decode cL_act 475 = .ok (.iconst 1, 1) := by decide +kernel
theorem dL_act_476 : decode cL_act 476 = .ok (.goto 4, 3) := by decide +kernel
theorem dL_act_479 : decode cL_act 479 = .ok (.iconst 0, 1) := by decide +kernel
theorem dL_act_480 : decode cL_act 480 = .ok (.ireturn, 1) := by decide +kernel
theorem dL_act_481 : decode cL_act 481 = .ok (.iload_n 2, 1) := by decide +kernel
theorem dL_act_482 : decode cL_act 482 = .ok (.bipush 6, 2) := by decide +kernel
theorem dL_act_484 : decode cL_act 484 = .ok (.ishr, 1) := by decide +kernel
theorem dL_act_485 : decode cL_act 485 = .ok (.bipush 10, 2) := by decide +kernel
theorem dL_act_487 : decode cL_act 487 = .ok (.invokestatic 18, 3) := by decide +kernel
theorem dL_act_490 : decode cL_act 490 = .ok (.istore 6, 2) := by decide +kernel
theorem dL_act_492 : decode cL_act 492 = .ok (.iconst 0, 1) := by decide +kernel
theorem dL_act_493 : decode cL_act 493 = .ok (.istore 7, 2) := by decide +kernel
theorem dL_act_495 : decode cL_act 495 = .ok (.iload 7, 2) := by decide +kernel
theorem dL_act_497 : decode cL_act 497 = .ok (.bipush 9, 2) := by decide +kernel
theorem dL_act_499 : decode cL_act 499 = .ok (.if_icmp .ge 54, 3) := by decide +kernel
theorem dL_act_502 : decode cL_act 502 = .ok (.iload_n 2, 1) := by decide +kernel
theorem dL_act_503 : decode cL_act 503 = .ok (.bipush 8, 2) := by decide +kernel
theorem dL_act_505 : decode cL_act 505 = .ok (.ishr, 1) := by decide +kernel
theorem dL_act_506 : decode cL_act 506 = .ok (.iconst 4, 1) := by decide +kernel
theorem dL_act_507 : decode cL_act 507 = .ok (.invokestatic 18, 3) := by decide +kernel
theorem dL_act_510 : decode cL_act 510 = .ok (.ifCond .le 43, 3) := by decide +kernel
theorem dL_act_513 : decode cL_act 513 = .ok (.iload 6, 2) := by decide +kernel
theorem dL_act_515 : decode cL_act 515 = .ok (.ifCond .le 38, 3) := by decide +kernel
theorem dL_act_518 : decode cL_act 518 = .ok (.aload_n 1, 1) := by decide +kernel
theorem dL_act_519 : decode cL_act 519 = .ok (.iload 5, 2) := by decide +kernel
theorem dL_act_521 : decode cL_act 521 = .ok (.iload_n 3, 1) := by decide +kernel
theorem dL_act_522 : decode cL_act 522 = .ok (.aload_n 1, 1) := by decide +kernel
theorem dL_act_523 : decode cL_act 523 = .ok (.getfield 9, 3) := by decide +kernel
theorem dL_act_526 : decode cL_act 526 = .ok (.idiv, 1) := by decide +kernel
theorem dL_act_527 : decode cL_act 527 = .ok (.invokevirtual 52, 3) := by decide +kernel
theorem dL_act_530 : decode cL_act 530 = .ok (.iload 6, 2) := by decide +kernel
theorem dL_act_532 : decode cL_act 532 = .ok (.ishr, 1) := by decide +kernel
theorem dL_act_533 : decode cL_act 533 = .ok (.iconst 1, 1) := by decide +kernel
theorem dL_act_534 : decode cL_act 534 = .ok (.iand, 1) := by decide +kernel
theorem dL_act_535 : decode cL_act 535 = .ok (.ifCond .ne 18, 3) := by decide +kernel
theorem dL_act_538 : decode cL_act 538 = .ok (.iload 6, 2) := by decide +kernel
theorem dL_act_540 : decode cL_act 540 = .ok (.bipush 9, 2) := by decide +kernel
theorem dL_act_542 : decode cL_act 542 = .ok (.irem, 1) := by decide +kernel
theorem dL_act_543 : decode cL_act 543 = .ok (.iconst 1, 1) := by decide +kernel
theorem dL_act_544 : decode cL_act 544 = .ok (.iadd, 1) := by decide +kernel
theorem dL_act_545 : decode cL_act 545 = .ok (.istore 6, 2) := by decide +kernel
theorem dL_act_547 : decode cL_act 547 = .ok (.iinc 7 1, 3) := by decide +kernel
theorem dL_act_550 : decode cL_act 550 = .ok (.goto (-55), 3) := by decide +kernel
theorem dL_act_553 : decode cL_act 553 = .ok (.aload 4, 2) := by decide +kernel
theorem dL_act_555 : decode cL_act 555 = .ok (.iload 5, 2) := by decide +kernel
theorem dL_act_557 : decode cL_act 557 = .ok (.iaload, 1) := by decide +kernel
theorem dL_act_558 : decode cL_act 558 = .ok (.istore 7, 2) := by decide +kernel
theorem dL_act_560 : decode cL_act 560 = .ok (.iload 7, 2) := by decide +kernel
theorem dL_act_562 : decode cL_act 562 = .ok (.ifCond .lt 10, 3) := by decide +kernel
theorem dL_act_565 : decode cL_act 565 = .ok (.aload 4, 2) := by decide +kernel
theorem dL_act_567 : decode cL_act 567 = .ok (.iload 5, 2) := by decide +kernel
theorem dL_act_569 : decode cL_act 569 = .ok (.iload 6, 2) := by decide +kernel
theorem dL_act_571 : decode cL_act 571 = .ok (.iastore, 1) := by decide +kernel
theorem dL_act_572 : decode cL_act 572 = .ok (.aload_n 0, 1) := by decide +kernel
theorem dL_act_573 : decode cL_act 573 = .ok (.iload_n 3, 1) := by decide +kernel
theorem dL_act_574 : decode cL_act 574 = .ok (.iload 6, 2) := by decide +kernel
theorem dL_act_576 : decode cL_act 576 = .ok (.invokevirtual 55, 3) := by decide +kernel
theorem dL_act_579 : decode cL_act 579 = .ok (.iload 7, 2) := by decide +kernel
theorem dL_act_581 : decode cL_act 581 = .ok (.if_icmp .ne 12, 3) := by decide +kernel
theorem dL_act_584 : decode cL_act 584 = .ok (.iload 7, 2) := by decide +kernel
theorem dL_act_586 : decode cL_act 586 = .ok (.ifCond .lt 7, 3) := by decide +kernel
theorem dL_act_589 : decode cL_act 589 = .ok (.iconst 1, 1) := by decide +kernel
theorem dL_act_590 : decode cL_act 590 = .ok (.goto 4, 3) := by decide +kernel
theorem dL_act_593 : decode cL_act 593 = .ok (.iconst 0, 1) := by decide +kernel
theorem dL_act_594 : decode cL_act 594 = .ok (.ireturn, 1) := by decide +kernel
theorem dL_act_595 : decode cL_act 595 = .ok (.astore 8, 2) := by decide +kernel
theorem dL_act_597 : decode cL_act 597 = .ok (.iload 7, 2) := by decide +kernel
theorem dL_act_599 : decode cL_act 599 = .ok (.ifCond .ge 7, 3) := by decide +kernel
theorem dL_act_602 : decode cL_act 602 = .ok (.iconst 1, 1) := by decide +kernel
theorem dL_act_603 : decode cL_act 603 = .ok (.goto 4, 3) := by decide +kernel
theorem dL_act_606 : decode cL_act 606 = .ok (.iconst 0, 1) := by decide +kernel
theorem dL_act_607 : decode cL_act 607 = .ok (.ireturn, 1) := by decide +kernel
set_option maxRecDepth 20000 in
theorem ggL_build_X5_init : GoodIn wsL_build wsX5_init := goodIn_r _ [6, 7, 8, 9, 10, 11, 12, 13, 14, 15, 16, 173, 174, 175, 176, 177, 178, 179, 180] (by decide +kernel) (by decide +kernel)
set_option maxRecDepth 20000 in
theorem gL_build_X5_init_n60 : GoodIn wsL_build (wsX5_init) := ggL_build_X5_init
set_option maxRecDepth 20000 in
theorem ggL_build_L_cell : GoodIn wsL_build wsL_cell := goodIn_r _ [20, 21] (by decide +kernel) (by decide +kernel)
set_option maxRecDepth 20000 in
theorem gL_build_L_cell : GoodIn wsL_build (va_wsS RL 61 yL_cell wsL_cell) := goodIn_app (goodIn_of _ (by decide +kernel)) ggL_build_L_cell
set_option maxRecDepth 20000 in
theorem ggL_build_L_below : GoodIn wsL_build wsL_below := goodIn_r _ [24, 25] (by decide +kernel) (by decide +kernel)
set_option maxRecDepth 20000 in
theorem gL_build_L_below : GoodIn wsL_build (va_wsS RL 18 yL_below wsL_below) := goodIn_app (goodIn_of _ (by decide +kernel)) ggL_build_L_below
set_option maxRecDepth 20000 in
theorem x_ggL_build_L_act_h : GoodIn wsL_build [.codeWith yL_act cL_act 12 (some .boolean) [(572, 594, 595, 58)]] := goodIn_sub (fun w h => by rw [List.mem_singleton.mp h]; exact List.mem_of_getElem? (i := 28) rfl) (by decide +kernel)
set_option maxRecDepth 20000 in
theorem x_ggL_build_L_act_r1 : GoodIn wsL_build wsL_act_r1 := goodIn_sub (by decide +kernel) (by decide +kernel)
set_option maxRecDepth 20000 in
theorem x_ggL_build_L_act_r2 : GoodIn wsL_build wsL_act_r2 := goodIn_sub (by decide +kernel) (by decide +kernel)
set_option maxRecDepth 20000 in
theorem x_ggL_build_L_act_r3 : GoodIn wsL_build wsL_act_r3 := goodIn_sub (by decide +kernel) (by decide +kernel)
set_option maxRecDepth 20000 in
theorem x_ggL_build_L_act_r4 : GoodIn wsL_build wsL_act_r4 := goodIn_sub (by decide +kernel) (by decide +kernel)
set_option maxRecDepth 20000 in
theorem x_ggL_build_L_act_r5 : GoodIn wsL_build wsL_act_r5 := goodIn_sub (by decide +kernel) (by decide +kernel)
set_option maxRecDepth 20000 in
theorem x_ggL_build_L_act_r6 : GoodIn wsL_build wsL_act_r6 := goodIn_sub (by decide +kernel) (by decide +kernel)
set_option maxRecDepth 20000 in
theorem x_ggL_build_L_act_r7 : GoodIn wsL_build wsL_act_r7 := goodIn_sub (by decide +kernel) (by decide +kernel)
set_option maxRecDepth 20000 in
theorem x_ggL_build_L_act_X5 : GoodIn wsL_build wsX50 := goodIn_sub (by decide +kernel) (by decide +kernel)
set_option maxRecDepth 20000 in
theorem x_ggL_build_L_act_X4 : GoodIn wsL_build wsX40 := goodIn_sub (by decide +kernel) (by decide +kernel)
set_option maxRecDepth 20000 in
theorem x_ggL_build_L_act_X3 : GoodIn wsL_build wsX30 := goodIn_sub (by decide +kernel) (by decide +kernel)
set_option maxRecDepth 20000 in
theorem x_ggL_build_L_act_X1 : GoodIn wsL_build wsX10 := goodIn_sub (by decide +kernel) (by decide +kernel)
set_option maxRecDepth 20000 in
theorem x_ggL_build_L_act_X0 : GoodIn wsL_build wsX00 := goodIn_sub (by decide +kernel) (by decide +kernel)
set_option maxRecDepth 20000 in
theorem ggL_build_L_act : GoodIn wsL_build wsL_act := goodIn_ca (goodIn_ca (goodIn_ca (goodIn_app (a := [.codeWith yL_act cL_act 12 (some .boolean) [(572, 594, 595, 58)]]) x_ggL_build_L_act_h (goodIn_app (goodIn_app (goodIn_app (goodIn_app (goodIn_app (goodIn_app x_ggL_build_L_act_r1 (goodIn_app x_ggL_build_L_act_r2 (goodIn_app x_ggL_build_L_act_r3 (goodIn_app x_ggL_build_L_act_r4 (goodIn_app x_ggL_build_L_act_r5 (goodIn_app x_ggL_build_L_act_r6 x_ggL_build_L_act_r7)))))) x_ggL_build_L_act_X5) x_ggL_build_L_act_X4) x_ggL_build_L_act_X3) x_ggL_build_L_act_X1) x_ggL_build_L_act_X0)) (goodIn_sub (fun _ h => List.mem_cons_of_mem _ (List.mem_append_left _ (List.mem_append_left _ (List.mem_append_right _ h)))) (by decide +kernel))) (goodIn_sub (fun _ h => List.mem_cons_of_mem _ (List.mem_append_left _ (List.mem_append_right _ h))) (by decide +kernel))) (goodIn_sub (fun _ h => List.mem_cons_of_mem _ (List.mem_append_right _ h)) (by decide +kernel))
set_option maxRecDepth 20000 in
theorem gL_build_L_act : GoodIn wsL_build (va_wsS RL 66 yL_act wsL_act) := goodIn_app (goodIn_of _ (by decide +kernel)) ggL_build_L_act
theorem dL_build_0 : decode cL_build 0 = .ok (.new 10, 3) := by decide +kernel
theorem dL_build_3 : decode cL_build 3 = .ok (.dup, 1) := by decide +kernel
theorem dL_build_4 : decode cL_build 4 = .ok (.invokespecial 60, 3) := by decide +kernel
theorem dL_build_7 : decode cL_build 7 = .ok (.astore_n 2, 1) := by decide +kernel
theorem dL_build_8 : decode cL_build 8 = .ok (.iconst 0, 1) := by decide +kernel
theorem dL_build_9 : decode cL_build 9 = .ok (.istore_n 3, 1) := by decide +kernel
theorem dL_build_10 : decode cL_build 10 = .ok (.iload_n 3, 1) := by decide +kernel
theorem dL_build_11 : decode cL_build 11 = .ok (.bipush 26, 2) := by decide +kernel
theorem dL_build_13 : decode cL_build 13 = .ok (.if_icmp .ge 83, 3) := by decide +kernel
theorem dL_build_16 : decode cL_build 16 = .ok (.aload_n 1, 1) := by decide +kernel
theorem dL_build_17 : decode cL_build 17 = .ok (.iload_n 3, 1) := by decide +kernel
theorem dL_build_18 : decode cL_build 18 = .ok (.bipush 16, 2) := by decide +kernel
theorem dL_build_20 : decode cL_build 20 = .ok (.irem, 1) := by decide +kernel
theorem dL_build_21 : decode cL_build 21 = .ok (.invokestatic 61, 3) := by decide +kernel
theorem dL_build_24 : decode cL_build 24 = .ok (.iload_n 3, 1) := by decide +kernel
theorem dL_build_25 : decode cL_build 25 = .ok (.bipush 16, 2) := by decide +kernel
theorem dL_build_27 : decode cL_build 27 = .ok (.idiv, 1) := by decide +kernel
theorem dL_build_28 : decode cL_build 28 = .ok (.iconst 4, 1) := by decide +kernel
theorem dL_build_29 : decode cL_build 29 = .ok (.imul, 1) := by decide +kernel
theorem dL_build_30 : decode cL_build 30 = .ok (.ishr, 1) := by decide +kernel
theorem dL_build_31 : decode cL_build 31 = .ok (.bipush 59, 2) := by decide +kernel
theorem dL_build_33 : decode cL_build 33 = .ok (.iload_n 3, 1) := by decide +kernel
theorem dL_build_34 : decode cL_build 34 = .ok (.imul, 1) := by decide +kernel
theorem dL_build_35 : decode cL_build 35 = .ok (.iadd, 1) := by decide +kernel
theorem dL_build_36 : decode cL_build 36 = .ok (.istore 4, 2) := by decide +kernel
theorem dL_build_38 : decode cL_build 38 = .ok (.iload_n 3, 1) := by decide +kernel
theorem dL_build_39 : decode cL_build 39 = .ok (.bipush 18, 2) := by decide +kernel
theorem dL_build_41 : decode cL_build 41 = .ok (.if_icmp .ge 37, 3) := by decide +kernel
theorem dL_build_44 : decode cL_build 44 = .ok (.bipush 14, 2) := by decide +kernel
theorem dL_build_46 : decode cL_build 46 = .ok (.iconst 4, 1) := by decide +kernel
theorem dL_build_47 : decode cL_build 47 = .ok (.iload 4, 2) := by decide +kernel
theorem dL_build_49 : decode cL_build 49 = .ok (.ldc 65, 2) := by decide +kernel
theorem dL_build_51 : decode cL_build 51 = .ok (.invokestatic 18, 3) := by decide +kernel
theorem dL_build_54 : decode cL_build 54 = .ok (.imul, 1) := by decide +kernel
theorem dL_build_55 : decode cL_build 55 = .ok (.imul, 1) := by decide +kernel
theorem dL_build_56 : decode cL_build 56 = .ok (.iload_n 3, 1) := by decide +kernel
theorem dL_build_57 : decode cL_build 57 = .ok (.ifCond .ne 7, 3) := by decide +kernel
theorem dL_build_60 : decode cL_build 60 = .ok (.iconst 0, 1) := by decide +kernel
theorem dL_build_61 : decode cL_build 61 = .ok (.goto 14, 3) := by decide +kernel
theorem dL_build_64 : decode cL_build 64 = .ok (.iload_n 3, 1) := by decide +kernel
theorem dL_build_65 : decode cL_build 65 = .ok (.bipush 7, 2) := by decide +kernel
theorem dL_build_67 : decode cL_build 67 = .ok (.if_icmp .ge 7, 3) := by decide +kernel
theorem dL_build_70 : decode cL_build 70 = .ok (.iconst 1, 1) := by decide +kernel
theorem dL_build_71 : decode cL_build 71 = .ok (.goto 4, 3) := by decide +kernel
theorem dL_build_74 : decode cL_build 74 = .ok (.iconst 4, 1) := by decide +kernel
theorem dL_build_75 : decode cL_build 75 = .ok (.iadd, 1) := by decide +kernel
theorem dL_build_76 : decode cL_build 76 = .ok (.istore 4, 2) := by decide +kernel
theorem dL_build_78 : decode cL_build 78 = .ok (.aload_n 0, 1) := by decide +kernel
theorem dL_build_79 : decode cL_build 79 = .ok (.aload_n 2, 1) := by decide +kernel
theorem dL_build_80 : decode cL_build 80 = .ok (.iload 4, 2) := by decide +kernel
theorem dL_build_82 : decode cL_build 82 = .ok (.invokestatic 66, 3) := by decide +kernel
theorem dL_build_85 : decode cL_build 85 = .ok (.ifCond .ne 5, 3) := by decide +kernel
theorem dL_build_88 : decode cL_build 88 = .ok (.aconst_null, 1) := by decide +kernel
theorem dL_build_89 : decode cL_build 89 = .ok (.areturn, 1) := by decide +kernel
theorem dL_build_90 : decode cL_build 90 = .ok (.iinc 3 1, 3) := by decide +kernel
theorem dL_build_93 : decode cL_build 93 = .ok (.goto (-83), 3) := by decide +kernel
theorem dL_build_96 : decode cL_build 96 = .ok (.aload_n 2, 1) := by decide +kernel
theorem dL_build_97 : decode cL_build 97 = .ok (.areturn, 1) := by decide +kernel
