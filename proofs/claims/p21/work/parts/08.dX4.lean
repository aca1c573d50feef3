theorem dX4_init_0 : decode cX4_init 0 = .ok (.aload_n 0, 1) := by decide +kernel
theorem dX4_init_1 : decode cX4_init 1 = .ok (.invokespecial 1, 3) := by decide +kernel
theorem dX4_init_4 : decode cX4_init 4 = .ok (.aload_n 0, 1) := by decide +kernel
theorem dX4_init_5 : decode cX4_init 5 = .ok (.new 7, 3) := by decide +kernel
theorem dX4_init_8 : decode cX4_init 8 = .ok (.dup, 1) := by decide +kernel
theorem dX4_init_9 : decode cX4_init 9 = .ok (.invokespecial 9, 3) := by decide +kernel
theorem dX4_init_12 : decode cX4_init 12 = .ok (.putfield 10, 3) := by decide +kernel
theorem dX4_init_15 : decode cX4_init 15 = .ok (.aload_n 0, 1) := by decide +kernel
theorem dX4_init_16 : decode cX4_init 16 = .ok (.new 16, 3) := by decide +kernel
theorem dX4_init_19 : decode cX4_init 19 = .ok (.dup, 1) := by decide +kernel
theorem dX4_init_20 : decode cX4_init 20 = .ok (.aload_n 0, 1) := by decide +kernel
theorem dX4_init_21 : decode cX4_init 21 = .ok (.getfield 10, 3) := by decide +kernel
theorem dX4_init_24 : decode cX4_init 24 = .ok (.invokespecial 18, 3) := by decide +kernel
theorem dX4_init_27 : decode cX4_init 27 = .ok (.putfield 21, 3) := by decide +kernel
theorem dX4_init_30 : decode cX4_init 30 = .ok (.return_, 1) := by decide +kernel
set_option maxRecDepth 20000 in
theorem ggX4_setFloor_X3_forget : GoodIn wsX4_setFloor wsX3_forget := goodIn_r _ [9, 10, 50, 51, 52, 53, 54, 55, 56] (by decide +kernel) (by decide +kernel)
set_option maxRecDepth 20000 in
theorem gX4_setFloor_X3_forget : GoodIn wsX4_setFloor (wsV RX4 32 RX3 yX3_forget wsX3_forget) := goodIn_app (goodIn_of _ (by decide +kernel)) ggX4_setFloor_X3_forget
set_option maxRecDepth 20000 in
theorem ggX4_setFloor_X1_clear : GoodIn wsX4_setFloor wsX1_clear := goodIn_r _ [15, 16, 17, 18, 19, 20, 21, 22, 23, 24, 25, 26, 27, 28, 29, 30, 31, 32, 33, 14, 34, 35, 36, 37, 38, 39, 40, 41, 42, 43, 57, 58, 59, 60, 61, 62, 63, 64, 65, 66, 67, 68, 69, 70] (by decide +kernel) (by decide +kernel)
set_option maxRecDepth 20000 in
theorem gX4_setFloor_X1_clear : GoodIn wsX4_setFloor (wsV RX4 35 RX1 yX1_clear wsX1_clear) := goodIn_app (goodIn_of _ (by decide +kernel)) ggX4_setFloor_X1_clear
set_option maxRecDepth 20000 in
theorem ggX4_setFloor_X1_cells : GoodIn wsX4_setFloor wsX1_cells := goodIn_r _ [47, 16, 17, 57, 58, 59, 60, 61] (by decide +kernel) (by decide +kernel)
set_option maxRecDepth 20000 in
theorem gX4_setFloor_X1_cells : GoodIn wsX4_setFloor (wsV RX4 39 RX1 yX1_cells wsX1_cells) := goodIn_app (goodIn_of _ (by decide +kernel)) ggX4_setFloor_X1_cells
theorem dX4_setFloor_0 : decode cX4_setFloor 0 = .ok (.iload_n 1, 1) := by decide +kernel
theorem dX4_setFloor_1 : decode cX4_setFloor 1 = .ok (.iconst 2, 1) := by decide +kernel
theorem dX4_setFloor_2 : decode cX4_setFloor 2 = .ok (.if_icmp .lt 20, 3) := by decide +kernel
theorem dX4_setFloor_5 : decode cX4_setFloor 5 = .ok (.iload_n 1, 1) := by decide +kernel
theorem dX4_setFloor_6 : decode cX4_setFloor 6 = .ok (.bipush 6, 2) := by decide +kernel
theorem dX4_setFloor_8 : decode cX4_setFloor 8 = .ok (.if_icmp .gt 14, 3) := by decide +kernel
theorem dX4_setFloor_11 : decode cX4_setFloor 11 = .ok (.iload_n 2, 1) := by decide +kernel
theorem dX4_setFloor_12 : decode cX4_setFloor 12 = .ok (.iconst 2, 1) := by decide +kernel
theorem dX4_setFloor_13 : decode cX4_setFloor 13 = .ok (.if_icmp .lt 9, 3) := by decide +kernel
theorem dX4_setFloor_16 : decode cX4_setFloor 16 = .ok (.iload_n 2, 1) := by decide +kernel
theorem dX4_setFloor_17 : decode cX4_setFloor 17 = .ok (.bipush 6, 2) := by decide +kernel
theorem dX4_setFloor_19 : decode cX4_setFloor 19 = .ok (.if_icmp .le 13, 3) := by decide +kernel
theorem dX4_setFloor_22 : decode cX4_setFloor 22 = .ok (.new 25, 3) := by decide +kernel
theorem dX4_setFloor_25 : decode cX4_setFloor 25 = .ok (.dup, 1) := by decide +kernel
theorem dX4_setFloor_26 : decode cX4_setFloor 26 = .ok (.ldc 27, 2) := by decide +kernel
theorem dX4_setFloor_28 : decode cX4_setFloor 28 = .ok (.invokespecial 29, 3) := by decide +kernel
theorem dX4_setFloor_31 : decode cX4_setFloor 31 = .ok (.athrow, 1) := by decide +kernel
theorem dX4_setFloor_32 : decode cX4_setFloor 32 = .ok (.aload_n 0, 1) := by decide +kernel
theorem dX4_setFloor_33 : decode cX4_setFloor 33 = .ok (.getfield 21, 3) := by decide +kernel
theorem dX4_setFloor_36 : decode cX4_setFloor 36 = .ok (.invokevirtual 32, 3) := by decide +kernel
theorem dX4_setFloor_39 : decode cX4_setFloor 39 = .ok (.aload_n 0, 1) := by decide +kernel
theorem dX4_setFloor_40 : decode cX4_setFloor 40 = .ok (.getfield 10, 3) := by decide +kernel
theorem dX4_setFloor_43 : decode cX4_setFloor 43 = .ok (.iload_n 1, 1) := by decide +kernel
theorem dX4_setFloor_44 : decode cX4_setFloor 44 = .ok (.iload_n 2, 1) := by decide +kernel
theorem dX4_setFloor_45 : decode cX4_setFloor 45 = .ok (.invokevirtual 35, 3) := by decide +kernel
theorem dX4_setFloor_48 : decode cX4_setFloor 48 = .ok (.aload_n 0, 1) := by decide +kernel
theorem dX4_setFloor_49 : decode cX4_setFloor 49 = .ok (.getfield 10, 3) := by decide +kernel
theorem dX4_setFloor_52 : decode cX4_setFloor 52 = .ok (.invokevirtual 39, 3) := by decide +kernel
theorem dX4_setFloor_55 : decode cX4_setFloor 55 = .ok (.ireturn, 1) := by decide +kernel
set_option maxRecDepth 20000 in
theorem ggX4_pillar_X4_checkCell : GoodIn wsX4_pillar wsX4_checkCell := goodIn_ca (goodIn_r _ [7, 8, 9, 2, 10, 11, 12, 13, 14, 15, 16, 17, 18, 19, 20, 55, 56, 57, 58, 59, 60, 61] (by decide +kernel) (by decide +kernel)) (goodIn_sub (fun _ h => List.mem_cons_of_mem _ (List.mem_append_right _ h)) (by decide +kernel))
set_option maxRecDepth 20000 in
theorem gX4_pillar_X4_checkCell : GoodIn wsX4_pillar (wsV RX4 43 RX4 yX4_checkCell wsX4_checkCell) := goodIn_app (goodIn_of _ (by decide +kernel)) ggX4_pillar_X4_checkCell
set_option maxRecDepth 20000 in
theorem ggX4_pillar_X3_forget : GoodIn wsX4_pillar wsX3_forget := goodIn_r _ [25, 26, 62, 63, 64, 65, 66, 67, 68] (by decide +kernel) (by decide +kernel)
set_option maxRecDepth 20000 in
theorem gX4_pillar_X3_forget : GoodIn wsX4_pillar (wsV RX4 32 RX3 yX3_forget wsX3_forget) := goodIn_app (goodIn_of _ (by decide +kernel)) ggX4_pillar_X3_forget
set_option maxRecDepth 20000 in
theorem ggX4_pillar_X1_turnPillar : GoodIn wsX4_pillar wsX1_turnPillar := goodIn_r _ [30, 31, 32, 33, 34, 13, 35, 36, 6, 37, 38, 39, 40, 41, 42, 43, 20, 19, 44, 45, 46, 47, 48, 49, 50, 51, 52, 53, 57, 58, 59, 60, 61, 69, 70, 71, 72, 73, 74, 75, 76, 77] (by decide +kernel) (by decide +kernel)
set_option maxRecDepth 20000 in
theorem gX4_pillar_X1_turnPillar : GoodIn wsX4_pillar (wsV RX4 47 RX1 yX1_turnPillar wsX1_turnPillar) := goodIn_app (goodIn_of _ (by decide +kernel)) ggX4_pillar_X1_turnPillar
set_option maxRecDepth 20000 in
theorem ggX4_pillar_X1_isPillar : GoodIn wsX4_pillar wsX1_isPillar := goodIn_r _ [35, 31, 36, 6, 37, 57, 58, 59, 60, 61] (by decide +kernel) (by decide +kernel)
set_option maxRecDepth 20000 in
theorem gX4_pillar_X1_isPillar : GoodIn wsX4_pillar (wsV RX4 50 RX1 yX1_isPillar wsX1_isPillar) := goodIn_app (goodIn_of _ (by decide +kernel)) ggX4_pillar_X1_isPillar
theorem dX4_pillar_0 : decode cX4_pillar 0 = .ok (.aload_n 0, 1) := by decide +kernel
theorem dX4_pillar_1 : decode cX4_pillar 1 = .ok (.iload_n 1, 1) := by decide +kernel
theorem dX4_pillar_2 : decode cX4_pillar 2 = .ok (.invokevirtual 43, 3) := by decide +kernel
theorem dX4_pillar_5 : decode cX4_pillar 5 = .ok (.aload_n 0, 1) := by decide +kernel
theorem dX4_pillar_6 : decode cX4_pillar 6 = .ok (.getfield 21, 3) := by decide +kernel
theorem dX4_pillar_9 : decode cX4_pillar 9 = .ok (.invokevirtual 32, 3) := by decide +kernel
theorem dX4_pillar_12 : decode cX4_pillar 12 = .ok (.aload_n 0, 1) := by decide +kernel
theorem dX4_pillar_13 : decode cX4_pillar 13 = .ok (.getfield 10, 3) := by decide +kernel
theorem dX4_pillar_16 : decode cX4_pillar 16 = .ok (.iload_n 1, 1) := by decide +kernel
theorem dX4_pillar_17 : decode cX4_pillar 17 = .ok (.invokevirtual 47, 3) := by decide +kernel
theorem dX4_pillar_20 : decode cX4_pillar 20 = .ok (.aload_n 0, 1) := by decide +kernel
theorem dX4_pillar_21 : decode cX4_pillar 21 = .ok (.getfield 10, 3) := by decide +kernel
theorem dX4_pillar_24 : decode cX4_pillar 24 = .ok (.iload_n 1, 1) := by decide +kernel
theorem dX4_pillar_25 : decode cX4_pillar 25 = .ok (.invokevirtual 50, 3) := by decide +kernel
theorem dX4_pillar_28 : decode cX4_pillar 28 = .ok (.ireturn, 1) := by decide +kernel
set_option maxRecDepth 20000 in
theorem ggX4_setSum_X4_checkCell : GoodIn wsX4_setSum wsX4_checkCell := goodIn_ca (goodIn_r _ [9, 10, 11, 4, 12, 13, 14, 15, 16, 17, 18, 19, 20, 21, 22, 45, 46, 47, 48, 49, 50, 51] (by decide +kernel) (by decide +kernel)) (goodIn_sub (fun _ h => List.mem_cons_of_mem _ (List.mem_append_right _ h)) (by decide +kernel))
set_option maxRecDepth 20000 in
theorem gX4_setSum_X4_checkCell : GoodIn wsX4_setSum (wsV RX4 43 RX4 yX4_checkCell wsX4_checkCell) := goodIn_app (goodIn_of _ (by decide +kernel)) ggX4_setSum_X4_checkCell
set_option maxRecDepth 20000 in
theorem ggX4_setSum_X3_forget : GoodIn wsX4_setSum wsX3_forget := goodIn_r _ [27, 28, 52, 53, 54, 55, 56, 57, 58] (by decide +kernel) (by decide +kernel)
set_option maxRecDepth 20000 in
theorem gX4_setSum_X3_forget : GoodIn wsX4_setSum (wsV RX4 32 RX3 yX3_forget wsX3_forget) := goodIn_app (goodIn_of _ (by decide +kernel)) ggX4_setSum_X3_forget
set_option maxRecDepth 20000 in
theorem ggX4_setSum_X1_corridors : GoodIn wsX4_setSum wsX1_corridors := goodIn_r _ [32, 33, 34, 47, 48, 49, 50, 51] (by decide +kernel) (by decide +kernel)
set_option maxRecDepth 20000 in
theorem gX4_setSum_X1_corridors : GoodIn wsX4_setSum (wsV RX4 56 RX1 yX1_corridors wsX1_corridors) := goodIn_app (goodIn_of _ (by decide +kernel)) ggX4_setSum_X1_corridors
set_option maxRecDepth 20000 in
theorem ggX4_setSum_X0_tellSum : GoodIn wsX4_setSum wsX0_tellSum := goodIn_r _ [39, 40, 41, 8, 42, 43, 44, 59, 60, 61, 62, 63, 64, 65, 66, 67] (by decide +kernel) (by decide +kernel)
set_option maxRecDepth 20000 in
theorem gX4_setSum_X0_tellSum : GoodIn wsX4_setSum (wsV RX4 60 RX0 yX0_tellSum wsX0_tellSum) := goodIn_app (goodIn_of _ (by decide +kernel)) ggX4_setSum_X0_tellSum
theorem dX4_setSum_0 : decode cX4_setSum 0 = .ok (.aload_n 0, 1) := by decide +kernel
theorem dX4_setSum_1 : decode cX4_setSum 1 = .ok (.iload_n 1, 1) := by decide +kernel
theorem dX4_setSum_2 : decode cX4_setSum 2 = .ok (.invokevirtual 43, 3) := by decide +kernel
theorem dX4_setSum_5 : decode cX4_setSum 5 = .ok (.iload_n 3, 1) := by decide +kernel
theorem dX4_setSum_6 : decode cX4_setSum 6 = .ok (.ifCond .lt 9, 3) := by decide +kernel
theorem dX4_setSum_9 : decode cX4_setSum 9 = .ok (.iload_n 3, 1) := by decide +kernel
theorem dX4_setSum_10 : decode cX4_setSum 10 = .ok (.bipush 45, 2) := by decide +kernel
theorem dX4_setSum_12 : decode cX4_setSum 12 = .ok (.if_icmp .le 13, 3) := by decide +kernel
theorem dX4_setSum_15 : decode cX4_setSum 15 = .ok (.new 25, 3) := by decide +kernel
theorem dX4_setSum_18 : decode cX4_setSum 18 = .ok (.dup, 1) := by decide +kernel
theorem dX4_setSum_19 : decode cX4_setSum 19 = .ok (.ldc 54, 2) := by decide +kernel
theorem dX4_setSum_21 : decode cX4_setSum 21 = .ok (.invokespecial 29, 3) := by decide +kernel
theorem dX4_setSum_24 : decode cX4_setSum 24 = .ok (.athrow, 1) := by decide +kernel
theorem dX4_setSum_25 : decode cX4_setSum 25 = .ok (.aload_n 0, 1) := by decide +kernel
theorem dX4_setSum_26 : decode cX4_setSum 26 = .ok (.getfield 21, 3) := by decide +kernel
theorem dX4_setSum_29 : decode cX4_setSum 29 = .ok (.invokevirtual 32, 3) := by decide +kernel
theorem dX4_setSum_32 : decode cX4_setSum 32 = .ok (.aload_n 0, 1) := by decide +kernel
theorem dX4_setSum_33 : decode cX4_setSum 33 = .ok (.getfield 10, 3) := by decide +kernel
theorem dX4_setSum_36 : decode cX4_setSum 36 = .ok (.iload_n 2, 1) := by decide +kernel
theorem dX4_setSum_37 : decode cX4_setSum 37 = .ok (.invokevirtual 56, 3) := by decide +kernel
theorem dX4_setSum_40 : decode cX4_setSum 40 = .ok (.iload_n 1, 1) := by decide +kernel
theorem dX4_setSum_41 : decode cX4_setSum 41 = .ok (.iload_n 3, 1) := by decide +kernel
theorem dX4_setSum_42 : decode cX4_setSum 42 = .ok (.invokevirtual 60, 3) := by decide +kernel
theorem dX4_setSum_45 : decode cX4_setSum 45 = .ok (.ireturn, 1) := by decide +kernel
set_option maxRecDepth 20000 in
theorem ggX4_put_X4_checkCell : GoodIn wsX4_put wsX4_checkCell := goodIn_ca (goodIn_r _ [9, 10, 11, 3, 12, 13, 14, 15, 16, 17, 18, 19, 20, 21, 22, 52, 53, 54, 55, 56, 57, 58] (by decide +kernel) (by decide +kernel)) (goodIn_sub (fun _ h => List.mem_cons_of_mem _ (List.mem_append_left _ (List.mem_append_right _ h))) (by decide +kernel))
set_option maxRecDepth 20000 in
theorem gX4_put_X4_checkCell : GoodIn wsX4_put (wsV RX4 43 RX4 yX4_checkCell wsX4_checkCell) := goodIn_app (goodIn_of _ (by decide +kernel)) ggX4_put_X4_checkCell
set_option maxRecDepth 20000 in
theorem ggX4_put_X4_checkOpen : GoodIn wsX4_put wsX4_checkOpen := goodIn_ca (goodIn_r _ [26, 27, 28, 3, 29, 30, 31, 15, 32, 33, 34, 8, 35, 52, 53, 54, 55, 56, 57, 58] (by decide +kernel) (by decide +kernel)) (goodIn_sub (fun _ h => List.mem_cons_of_mem _ (List.mem_append_right _ h)) (by decide +kernel))
set_option maxRecDepth 20000 in
theorem gX4_put_X4_checkOpen : GoodIn wsX4_put (wsV RX4 68 RX4 yX4_checkOpen wsX4_checkOpen) := goodIn_app (goodIn_of _ (by decide +kernel)) ggX4_put_X4_checkOpen
set_option maxRecDepth 20000 in
theorem ggX4_put_X1_stoneAt : GoodIn wsX4_put wsX1_stoneAt := goodIn_r _ [39, 33, 34, 8, 35, 54, 55, 56, 57, 58] (by decide +kernel) (by decide +kernel)
set_option maxRecDepth 20000 in
theorem gX4_put_X1_stoneAt : GoodIn wsX4_put (wsV RX4 71 RX1 yX1_stoneAt wsX1_stoneAt) := goodIn_app (goodIn_of _ (by decide +kernel)) ggX4_put_X1_stoneAt
set_option maxRecDepth 20000 in
theorem ggX4_put_X3_forget : GoodIn wsX4_put wsX3_forget := goodIn_r _ [44, 45, 59, 60, 61, 62, 63, 64, 65] (by decide +kernel) (by decide +kernel)
set_option maxRecDepth 20000 in
theorem gX4_put_X3_forget : GoodIn wsX4_put (wsV RX4 32 RX3 yX3_forget wsX3_forget) := goodIn_app (goodIn_of _ (by decide +kernel)) ggX4_put_X3_forget
set_option maxRecDepth 20000 in
theorem ggX4_put_X1_lay : GoodIn wsX4_put wsX1_lay := goodIn_r _ [49, 33, 50, 8, 51, 54, 55, 56, 57, 58] (by decide +kernel) (by decide +kernel)
set_option maxRecDepth 20000 in
theorem gX4_put_X1_lay : GoodIn wsX4_put (wsV RX4 75 RX1 yX1_lay wsX1_lay) := goodIn_app (goodIn_of _ (by decide +kernel)) ggX4_put_X1_lay
theorem dX4_put_0 : decode cX4_put 0 = .ok (.aload_n 0, 1) := by decide +kernel
theorem dX4_put_1 : decode cX4_put 1 = .ok (.iload_n 1, 1) := by decide +kernel
theorem dX4_put_2 : decode cX4_put 2 = .ok (.invokevirtual 43, 3) := by decide +kernel
theorem dX4_put_5 : decode cX4_put 5 = .ok (.iload_n 2, 1) := by decide +kernel
theorem dX4_put_6 : decode cX4_put 6 = .ok (.ifCond .lt 9, 3) := by decide +kernel
theorem dX4_put_9 : decode cX4_put 9 = .ok (.iload_n 2, 1) := by decide +kernel
theorem dX4_put_10 : decode cX4_put 10 = .ok (.bipush 9, 2) := by decide +kernel
theorem dX4_put_12 : decode cX4_put 12 = .ok (.if_icmp .le 13, 3) := by decide +kernel
theorem dX4_put_15 : decode cX4_put 15 = .ok (.new 25, 3) := by decide +kernel
theorem dX4_put_18 : decode cX4_put 18 = .ok (.dup, 1) := by decide +kernel
theorem dX4_put_19 : decode cX4_put 19 = .ok (.ldc 66, 2) := by decide +kernel
theorem dX4_put_21 : decode cX4_put 21 = .ok (.invokespecial 29, 3) := by decide +kernel
theorem dX4_put_24 : decode cX4_put 24 = .ok (.athrow, 1) := by decide +kernel
theorem dX4_put_25 : decode cX4_put 25 = .ok (.aload_n 0, 1) := by decide +kernel
theorem dX4_put_26 : decode cX4_put 26 = .ok (.iload_n 1, 1) := by decide +kernel
theorem dX4_put_27 : decode cX4_put 27 = .ok (.invokevirtual 68, 3) := by decide +kernel
theorem dX4_put_30 : decode cX4_put 30 = .ok (.aload_n 0, 1) := by decide +kernel
theorem dX4_put_31 : decode cX4_put 31 = .ok (.getfield 10, 3) := by decide +kernel
theorem dX4_put_34 : decode cX4_put 34 = .ok (.iload_n 1, 1) := by decide +kernel
theorem dX4_put_35 : decode cX4_put 35 = .ok (.invokevirtual 71, 3) := by decide +kernel
theorem dX4_put_38 : decode cX4_put 38 = .ok (.istore_n 3, 1) := by decide +kernel
theorem dX4_put_39 : decode cX4_put 39 = .ok (.aload_n 0, 1) := by decide +kernel
theorem dX4_put_40 : decode cX4_put 40 = .ok (.getfield 21, 3) := by decide +kernel
theorem dX4_put_43 : decode cX4_put 43 = .ok (.invokevirtual 32, 3) := by decide +kernel
theorem dX4_put_46 : decode cX4_put 46 = .ok (.aload_n 0, 1) := by decide +kernel
theorem dX4_put_47 : decode cX4_put 47 = .ok (.getfield 10, 3) := by decide +kernel
theorem dX4_put_50 : decode cX4_put 50 = .ok (.iload_n 1, 1) := by decide +kernel
theorem dX4_put_51 : decode cX4_put 51 = .ok (.iload_n 2, 1) := by decide +kernel
theorem dX4_put_52 : decode cX4_put 52 = .ok (.invokevirtual 75, 3) := by decide +kernel
theorem dX4_put_55 : decode cX4_put 55 = .ok (.iload_n 3, 1) := by decide +kernel
theorem dX4_put_56 : decode cX4_put 56 = .ok (.ireturn, 1) := by decide +kernel
set_option maxRecDepth 20000 in
theorem ggX4_force_X3_forget : GoodIn wsX4_force wsX3_forget := goodIn_r _ [7, 8, 85, 86, 87, 88, 89, 90, 91] (by decide +kernel) (by decide +kernel)
set_option maxRecDepth 20000 in
theorem gX4_force_X3_forget : GoodIn wsX4_force (wsV RX4 32 RX3 yX3_forget wsX3_forget) := goodIn_app (goodIn_of _ (by decide +kernel)) ggX4_force_X3_forget
set_option maxRecDepth 20000 in
theorem ggX4_force_X1_firstSingle : GoodIn wsX4_force wsX1_firstSingle := goodIn_r _ [13, 14, 15, 16, 12, 17, 18, 19, 20, 21, 22, 23, 24, 25, 26, 27, 28, 29, 30, 31, 32, 33, 34, 35, 36, 37, 38, 39, 40, 41, 42, 43, 44, 45, 46, 47, 48, 49, 50, 51, 52, 53, 54, 55, 56, 57, 58, 59, 60, 61, 62, 63, 64, 65, 66, 67, 68, 69, 92, 93, 94, 95, 96, 97, 98, 99, 100, 101, 102, 103, 104, 105, 106] (by decide +kernel) (by decide +kernel)
set_option maxRecDepth 20000 in
theorem gX4_force_X1_firstSingle : GoodIn wsX4_force (wsV RX4 78 RX1 yX1_firstSingle wsX1_firstSingle) := goodIn_app (goodIn_of _ (by decide +kernel)) ggX4_force_X1_firstSingle
set_option maxRecDepth 20000 in
theorem ggX4_force_X1_numbersFor : GoodIn wsX4_force wsX1_numbersFor := goodIn_r _ [23, 24, 25, 26, 27, 28, 12, 29, 30, 31, 32, 33, 34, 35, 36, 37, 38, 39, 40, 41, 42, 43, 44, 45, 46, 47, 48, 49, 50, 51, 52, 53, 54, 55, 56, 57, 58, 59, 60, 61, 62, 63, 64, 65, 66, 67, 68, 92, 93, 94, 95, 96, 97, 98, 99, 100, 101, 102, 103, 104, 105, 106] (by decide +kernel) (by decide +kernel)
set_option maxRecDepth 20000 in
theorem gX4_force_X1_numbersFor : GoodIn wsX4_force (wsV RX4 81 RX1 yX1_numbersFor wsX1_numbersFor) := goodIn_app (goodIn_of _ (by decide +kernel)) ggX4_force_X1_numbersFor
set_option maxRecDepth 20000 in
theorem ggX4_force_X4_smallestOf : GoodIn wsX4_force wsX4_smallestOf := goodIn_r _ [73, 74, 75, 32, 76] (by decide +kernel) (by decide +kernel)
set_option maxRecDepth 20000 in
theorem gX4_force_X4_smallestOf : GoodIn wsX4_force (va_wsS RX4 84 yX4_smallestOf wsX4_smallestOf) := goodIn_app (goodIn_of _ (by decide +kernel)) ggX4_force_X4_smallestOf
set_option maxRecDepth 20000 in
theorem ggX4_force_X1_lay : GoodIn wsX4_force wsX1_lay := goodIn_r _ [80, 30, 81, 32, 82, 92, 93, 94, 95, 96] (by decide +kernel) (by decide +kernel)
set_option maxRecDepth 20000 in
theorem gX4_force_X1_lay : GoodIn wsX4_force (wsV RX4 75 RX1 yX1_lay wsX1_lay) := goodIn_app (goodIn_of _ (by decide +kernel)) ggX4_force_X1_lay
theorem dX4_force_0 : decode cX4_force 0 = .ok (.aload_n 0, 1) := by decide +kernel
theorem dX4_force_1 : decode cX4_force 1 = .ok (.getfield 21, 3) := by decide +kernel
theorem dX4_force_4 : decode cX4_force 4 = .ok (.invokevirtual 32, 3) := by decide +kernel
theorem dX4_force_7 : decode cX4_force 7 = .ok (.iconst 0, 1) := by decide +kernel
theorem dX4_force_8 : decode cX4_force 8 = .ok (.istore_n 1, 1) := by decide +kernel
theorem dX4_force_9 : decode cX4_force 9 = .ok (.iload_n 1, 1) := by decide +kernel
theorem dX4_force_10 : decode cX4_force 10 = .ok (.bipush 36, 2) := by decide +kernel
theorem dX4_force_12 : decode cX4_force 12 = .ok (.if_icmp .ge 43, 3) := by decide +kernel
theorem dX4_force_15 : decode cX4_force 15 = .ok (.aload_n 0, 1) := by decide +kernel
theorem dX4_force_16 : decode cX4_force 16 = .ok (.getfield 10, 3) := by decide +kernel
theorem dX4_force_19 : decode cX4_force 19 = .ok (.invokevirtual 78, 3) := by decide +kernel
theorem dX4_force_22 : decode cX4_force 22 = .ok (.istore_n 2, 1) := by decide +kernel
theorem dX4_force_23 : decode cX4_force 23 = .ok (.iload_n 2, 1) := by decide +kernel
theorem dX4_force_24 : decode cX4_force 24 = .ok (.iconst (-1), 1) := by decide +kernel
theorem dX4_force_25 : decode cX4_force 25 = .ok (.if_icmp .ne 5, 3) := by decide +kernel
theorem dX4_force_28 : decode cX4_force 28 = .ok (.iload_n 1, 1) := by decide +kernel
theorem dX4_force_29 : decode cX4_force 29 = .ok (.ireturn, 1) := by decide +kernel
theorem dX4_force_30 : decode cX4_force 30 = .ok (.aload_n 0, 1) := by decide +kernel
theorem dX4_force_31 : decode cX4_force 31 = .ok (.getfield 10, 3) := by decide +kernel
theorem dX4_force_34 : decode cX4_force 34 = .ok (.iload_n 2, 1) := by decide +kernel
theorem dX4_force_35 : decode cX4_force 35 = .ok (.aload_n 0, 1) := by decide +kernel
theorem dX4_force_36 : decode cX4_force 36 = .ok (.getfield 10, 3) := by decide +kernel
theorem dX4_force_39 : decode cX4_force 39 = .ok (.iload_n 2, 1) := by decide +kernel
theorem dX4_force_40 : decode cX4_force 40 = .ok (.invokevirtual 81, 3) := by decide +kernel
theorem dX4_force_43 : decode cX4_force 43 = .ok (.invokestatic 84, 3) := by decide +kernel
theorem dX4_force_46 : decode cX4_force 46 = .ok (.invokevirtual 75, 3) := by decide +kernel
theorem dX4_force_49 : decode cX4_force 49 = .ok (.iinc 1 1, 3) := by decide +kernel
theorem dX4_force_52 : decode cX4_force 52 = .ok (.goto (-43), 3) := by decide +kernel
theorem dX4_force_55 : decode cX4_force 55 = .ok (.bipush 36, 2) := by decide +kernel
theorem dX4_force_57 : decode cX4_force 57 = .ok (.ireturn, 1) := by decide +kernel
set_option maxRecDepth 20000 in
theorem ggX4_stone_X4_checkCell : GoodIn wsX4_stone wsX4_checkCell := goodIn_ca (goodIn_r _ [6, 7, 8, 1, 9, 10, 11, 12, 13, 14, 15, 16, 17, 18, 19, 27, 28, 29, 30, 31, 32, 33] (by decide +kernel) (by decide +kernel)) (goodIn_sub (fun _ h => List.mem_cons_of_mem _ (List.mem_append_right _ h)) (by decide +kernel))
set_option maxRecDepth 20000 in
theorem gX4_stone_X4_checkCell : GoodIn wsX4_stone (wsV RX4 43 RX4 yX4_checkCell wsX4_checkCell) := goodIn_app (goodIn_of _ (by decide +kernel)) ggX4_stone_X4_checkCell
set_option maxRecDepth 20000 in
theorem ggX4_stone_X1_stoneAt : GoodIn wsX4_stone wsX1_stoneAt := goodIn_r _ [23, 24, 25, 5, 26, 29, 30, 31, 32, 33] (by decide +kernel) (by decide +kernel)
set_option maxRecDepth 20000 in
theorem gX4_stone_X1_stoneAt : GoodIn wsX4_stone (wsV RX4 71 RX1 yX1_stoneAt wsX1_stoneAt) := goodIn_app (goodIn_of _ (by decide +kernel)) ggX4_stone_X1_stoneAt
theorem dX4_stone_0 : decode cX4_stone 0 = .ok (.aload_n 0, 1) := by decide +kernel
theorem dX4_stone_1 : decode cX4_stone 1 = .ok (.iload_n 1, 1) := by decide +kernel
theorem dX4_stone_2 : decode cX4_stone 2 = .ok (.invokevirtual 43, 3) := by decide +kernel
theorem dX4_stone_5 : decode cX4_stone 5 = .ok (.aload_n 0, 1) := by decide +kernel
theorem dX4_stone_6 : decode cX4_stone 6 = .ok (.getfield 10, 3) := by decide +kernel
theorem dX4_stone_9 : decode cX4_stone 9 = .ok (.iload_n 1, 1) := by decide +kernel
theorem dX4_stone_10 : decode cX4_stone 10 = .ok (.invokevirtual 71, 3) := by decide +kernel
theorem dX4_stone_13 : decode cX4_stone 13 = .ok (.ireturn, 1) := by decide +kernel
set_option maxRecDepth 20000 in
theorem ggX4_corridor_X4_checkCell : GoodIn wsX4_corridor wsX4_checkCell := goodIn_ca (goodIn_r _ [8, 1, 2, 3, 9, 10, 11, 12, 13, 14, 15, 16, 17, 18, 19, 67, 68, 69, 70, 71, 72, 73] (by decide +kernel) (by decide +kernel)) (goodIn_sub (fun _ h => List.mem_cons_of_mem _ (List.mem_append_right _ h)) (by decide +kernel))
set_option maxRecDepth 20000 in
theorem gX4_corridor_X4_checkCell : GoodIn wsX4_corridor (wsV RX4 43 RX4 yX4_checkCell wsX4_checkCell) := goodIn_app (goodIn_of _ (by decide +kernel)) ggX4_corridor_X4_checkCell
set_option maxRecDepth 20000 in
theorem ggX4_corridor_X1_corridors : GoodIn wsX4_corridor wsX1_corridors := goodIn_r _ [23, 24, 25, 69, 70, 71, 72, 73] (by decide +kernel) (by decide +kernel)
set_option maxRecDepth 20000 in
theorem gX4_corridor_X1_corridors : GoodIn wsX4_corridor (wsV RX4 56 RX1 yX1_corridors wsX1_corridors) := goodIn_app (goodIn_of _ (by decide +kernel)) ggX4_corridor_X1_corridors
set_option maxRecDepth 20000 in
theorem ggX4_corridor_X0_tell : GoodIn wsX4_corridor wsX0_tell := goodIn_r _ [30, 31, 32, 33, 34, 35, 36, 7, 37, 38, 39, 40, 29, 41, 42, 43, 44, 45, 46, 47, 48, 49, 50, 51, 52, 53, 54, 55, 56, 57, 58, 59, 60, 61, 62, 63, 64, 65, 66, 74, 75, 76, 77, 78, 79, 80, 81, 82, 83] (by decide +kernel) (by decide +kernel)
set_option maxRecDepth 20000 in
theorem gX4_corridor_X0_tell : GoodIn wsX4_corridor (wsV RX4 92 RX0 yX0_tell wsX0_tell) := goodIn_app (goodIn_of _ (by decide +kernel)) ggX4_corridor_X0_tell
theorem dX4_corridor_0 : decode cX4_corridor 0 = .ok (.aload_n 0, 1) := by decide +kernel
theorem dX4_corridor_1 : decode cX4_corridor 1 = .ok (.iload_n 1, 1) := by decide +kernel
theorem dX4_corridor_2 : decode cX4_corridor 2 = .ok (.invokevirtual 43, 3) := by decide +kernel
theorem dX4_corridor_5 : decode cX4_corridor 5 = .ok (.iload_n 3, 1) := by decide +kernel
theorem dX4_corridor_6 : decode cX4_corridor 6 = .ok (.ifCond .lt 9, 3) := by decide +kernel
theorem dX4_corridor_9 : decode cX4_corridor 9 = .ok (.iload_n 3, 1) := by decide +kernel
theorem dX4_corridor_10 : decode cX4_corridor 10 = .ok (.bipush 6, 2) := by decide +kernel
theorem dX4_corridor_12 : decode cX4_corridor 12 = .ok (.if_icmp .lt 13, 3) := by decide +kernel
theorem dX4_corridor_15 : decode cX4_corridor 15 = .ok (.new 87, 3) := by decide +kernel
theorem dX4_corridor_18 : decode cX4_corridor 18 = .ok (.dup, 1) := by decide +kernel
theorem dX4_corridor_19 : decode cX4_corridor 19 = .ok (.ldc 89, 2) := by decide +kernel
theorem dX4_corridor_21 : decode cX4_corridor 21 = .ok (.invokespecial 91, 3) := by decide +kernel
theorem dX4_corridor_24 : decode cX4_corridor 24 = .ok (.athrow, 1) := by decide +kernel
theorem dX4_corridor_25 : decode cX4_corridor 25 = .ok (.aload_n 0, 1) := by decide +kernel
theorem dX4_corridor_26 : decode cX4_corridor 26 = .ok (.getfield 10, 3) := by decide +kernel
theorem dX4_corridor_29 : decode cX4_corridor 29 = .ok (.iload_n 2, 1) := by decide +kernel
theorem dX4_corridor_30 : decode cX4_corridor 30 = .ok (.invokevirtual 56, 3) := by decide +kernel
theorem dX4_corridor_33 : decode cX4_corridor 33 = .ok (.iload_n 1, 1) := by decide +kernel
theorem dX4_corridor_34 : decode cX4_corridor 34 = .ok (.iload_n 3, 1) := by decide +kernel
theorem dX4_corridor_35 : decode cX4_corridor 35 = .ok (.invokevirtual 92, 3) := by decide +kernel
theorem dX4_corridor_38 : decode cX4_corridor 38 = .ok (.ireturn, 1) := by decide +kernel
set_option maxRecDepth 20000 in
theorem ggX4_can_X4_checkCell : GoodIn wsX4_can wsX4_checkCell := goodIn_ca (goodIn_r _ [6, 7, 8, 1, 9, 10, 11, 12, 13, 14, 15, 16, 17, 18, 19, 68, 69, 70, 71, 72, 73, 74] (by decide +kernel) (by decide +kernel)) (goodIn_sub (fun _ h => List.mem_cons_of_mem _ (List.mem_append_right _ h)) (by decide +kernel))
set_option maxRecDepth 20000 in
theorem gX4_can_X4_checkCell : GoodIn wsX4_can (wsV RX4 43 RX4 yX4_checkCell wsX4_checkCell) := goodIn_app (goodIn_of _ (by decide +kernel)) ggX4_can_X4_checkCell
set_option maxRecDepth 20000 in
theorem ggX4_can_X1_numbersFor : GoodIn wsX4_can wsX1_numbersFor := goodIn_r _ [23, 24, 25, 26, 27, 28, 12, 29, 30, 31, 5, 32, 33, 34, 35, 36, 37, 38, 39, 40, 41, 42, 43, 44, 45, 46, 47, 48, 49, 50, 51, 52, 53, 54, 55, 56, 57, 58, 59, 60, 61, 62, 63, 64, 65, 66, 67, 70, 71, 72, 73, 74, 75, 76, 77, 78, 79, 80, 81, 82, 83, 84] (by decide +kernel) (by decide +kernel)
set_option maxRecDepth 20000 in
theorem gX4_can_X1_numbersFor : GoodIn wsX4_can (wsV RX4 81 RX1 yX1_numbersFor wsX1_numbersFor) := goodIn_app (goodIn_of _ (by decide +kernel)) ggX4_can_X1_numbersFor
theorem dX4_can_0 : decode cX4_can 0 = .ok (.aload_n 0, 1) := by decide +kernel
theorem dX4_can_1 : decode cX4_can 1 = .ok (.iload_n 1, 1) := by decide +kernel
theorem dX4_can_2 : decode cX4_can 2 = .ok (.invokevirtual 43, 3) := by decide +kernel
theorem dX4_can_5 : decode cX4_can 5 = .ok (.aload_n 0, 1) := by decide +kernel
theorem dX4_can_6 : decode cX4_can 6 = .ok (.getfield 10, 3) := by decide +kernel
theorem dX4_can_9 : decode cX4_can 9 = .ok (.iload_n 1, 1) := by decide +kernel
theorem dX4_can_10 : decode cX4_can 10 = .ok (.invokevirtual 81, 3) := by decide +kernel
theorem dX4_can_13 : decode cX4_can 13 = .ok (.ireturn, 1) := by decide +kernel
set_option maxRecDepth 20000 in
theorem ggX4_count_X1_tally : GoodIn wsX4_count wsX1_tally := goodIn_r _ [8, 9, 10, 11, 12, 13, 14, 7, 15, 16, 17, 18, 19, 20, 21, 22, 23, 24, 25, 26, 27, 28, 29, 30, 31, 32, 33, 34, 35, 36, 37, 38, 39, 40, 41, 42, 43, 44, 45, 46, 47, 48, 49, 50, 51, 52, 53, 54, 55, 56, 57, 58, 59, 60, 61, 62, 63, 64, 65, 66, 67, 68, 69, 70, 71, 72, 73, 74, 75, 76, 77, 78, 79, 80, 81, 82, 83, 84, 85, 86, 87, 88, 89, 90, 91, 92, 93, 94, 95, 96, 97, 98, 99, 100, 101, 102, 103, 104, 107, 108, 109, 110, 111, 112, 113, 114, 115, 116, 117, 118, 119, 120, 121] (by decide +kernel) (by decide +kernel)
set_option maxRecDepth 20000 in
theorem gX4_count_X1_tally : GoodIn wsX4_count (wsV RX4 97 RX1 yX1_tally wsX1_tally) := goodIn_app (goodIn_of _ (by decide +kernel)) ggX4_count_X1_tally
theorem dX4_count_0 : decode cX4_count 0 = .ok (.iload_n 1, 1) := by decide +kernel
theorem dX4_count_1 : decode cX4_count 1 = .ok (.ifCond .lt 9, 3) := by decide +kernel
theorem dX4_count_4 : decode cX4_count 4 = .ok (.iload_n 1, 1) := by decide +kernel
theorem dX4_count_5 : decode cX4_count 5 = .ok (.bipush 9, 2) := by decide +kernel
theorem dX4_count_7 : decode cX4_count 7 = .ok (.if_icmp .lt 13, 3) := by decide +kernel
theorem dX4_count_10 : decode cX4_count 10 = .ok (.new 87, 3) := by decide +kernel
theorem dX4_count_13 : decode cX4_count 13 = .ok (.dup, 1) := by decide +kernel
theorem dX4_count_14 : decode cX4_count 14 = .ok (.ldc 95, 2) := by decide +kernel
theorem dX4_count_16 : decode cX4_count 16 = .ok (.invokespecial 91, 3) := by decide +kernel
theorem dX4_count_19 : decode cX4_count 19 = .ok (.athrow, 1) := by decide +kernel
theorem dX4_count_20 : decode cX4_count 20 = .ok (.aload_n 0, 1) := by decide +kernel
theorem dX4_count_21 : decode cX4_count 21 = .ok (.getfield 10, 3) := by decide +kernel
theorem dX4_count_24 : decode cX4_count 24 = .ok (.iload_n 1, 1) := by decide +kernel
theorem dX4_count_25 : decode cX4_count 25 = .ok (.invokevirtual 97, 3) := by decide +kernel
theorem dX4_count_28 : decode cX4_count 28 = .ok (.ireturn, 1) := by decide +kernel
set_option maxRecDepth 20000 in
theorem ggX4_ways_X4_checkPartition : GoodIn wsX4_ways wsX4_checkPartition := goodIn_ca (goodIn_r _ [4, 5, 6] (by decide +kernel) (by decide +kernel)) (goodIn_sub (fun _ h => List.mem_cons_of_mem _ (List.mem_append_right _ h)) (by decide +kernel))
set_option maxRecDepth 20000 in
theorem gX4_ways_X4_checkPartition : GoodIn wsX4_ways (va_wsS RX4 100 yX4_checkPartition wsX4_checkPartition) := goodIn_app (goodIn_of _ (by decide +kernel)) ggX4_ways_X4_checkPartition
set_option maxRecDepth 20000 in
theorem ggX4_ways_X4_isPartition : GoodIn wsX4_ways wsX4_isPartition := goodIn_r _ [9, 10, 11, 12, 13, 14, 15, 16, 17, 18, 3, 19, 20, 21, 22] (by decide +kernel) (by decide +kernel)
set_option maxRecDepth 20000 in
theorem gX4_ways_X4_isPartition : GoodIn wsX4_ways (va_wsS RX4 103 yX4_isPartition wsX4_isPartition) := goodIn_app (goodIn_of _ (by decide +kernel)) ggX4_ways_X4_isPartition
theorem dX4_ways_0 : decode cX4_ways 0 = .ok (.iload_n 1, 1) := by decide +kernel
theorem dX4_ways_1 : decode cX4_ways 1 = .ok (.iload_n 2, 1) := by decide +kernel
theorem dX4_ways_2 : decode cX4_ways 2 = .ok (.invokestatic 100, 3) := by decide +kernel
theorem dX4_ways_5 : decode cX4_ways 5 = .ok (.iconst 0, 1) := by decide +kernel
theorem dX4_ways_6 : decode cX4_ways 6 = .ok (.istore_n 3, 1) := by decide +kernel
theorem dX4_ways_7 : decode cX4_ways 7 = .ok (.iconst 0, 1) := by decide +kernel
theorem dX4_ways_8 : decode cX4_ways 8 = .ok (.istore 4, 2) := by decide +kernel
theorem dX4_ways_10 : decode cX4_ways 10 = .ok (.iload 4, 2) := by decide +kernel
theorem dX4_ways_12 : decode cX4_ways 12 = .ok (.sipush 1022, 3) := by decide +kernel
theorem dX4_ways_15 : decode cX4_ways 15 = .ok (.if_icmp .gt 22, 3) := by decide +kernel
theorem dX4_ways_18 : decode cX4_ways 18 = .ok (.iload 4, 2) := by decide +kernel
theorem dX4_ways_20 : decode cX4_ways 20 = .ok (.iload_n 1, 1) := by decide +kernel
theorem dX4_ways_21 : decode cX4_ways 21 = .ok (.iload_n 2, 1) := by decide +kernel
theorem dX4_ways_22 : decode cX4_ways 22 = .ok (.invokestatic 103, 3) := by decide +kernel
theorem dX4_ways_25 : decode cX4_ways 25 = .ok (.ifCond .eq 6, 3) := by decide +kernel
theorem dX4_ways_28 : decode cX4_ways 28 = .ok (.iinc 3 1, 3) := by decide +kernel
theorem dX4_ways_31 : decode cX4_ways 31 = .ok (.iinc 4 2, 3) := by decide +kernel
theorem dX4_ways_34 : decode cX4_ways 34 = .ok (.goto (-24), 3) := by decide +kernel
theorem dX4_ways_37 : decode cX4_ways 37 = .ok (.iload_n 3, 1) := by decide +kernel
theorem dX4_ways_38 : decode cX4_ways 38 = .ok (.ireturn, 1) := by decide +kernel
set_option maxRecDepth 20000 in
theorem ggX4_forced_X4_checkPartition : GoodIn wsX4_forced wsX4_checkPartition := goodIn_ca (goodIn_r _ [4, 5, 6] (by decide +kernel) (by decide +kernel)) (goodIn_sub (fun _ h => List.mem_cons_of_mem _ (List.mem_append_right _ h)) (by decide +kernel))
set_option maxRecDepth 20000 in
theorem gX4_forced_X4_checkPartition : GoodIn wsX4_forced (va_wsS RX4 100 yX4_checkPartition wsX4_checkPartition) := goodIn_app (goodIn_of _ (by decide +kernel)) ggX4_forced_X4_checkPartition
set_option maxRecDepth 20000 in
theorem ggX4_forced_X4_isPartition : GoodIn wsX4_forced wsX4_isPartition := goodIn_r _ [9, 10, 11, 12, 13, 14, 15, 16, 17, 18, 3, 19, 20, 21, 22] (by decide +kernel) (by decide +kernel)
set_option maxRecDepth 20000 in
theorem gX4_forced_X4_isPartition : GoodIn wsX4_forced (va_wsS RX4 103 yX4_isPartition wsX4_isPartition) := goodIn_app (goodIn_of _ (by decide +kernel)) ggX4_forced_X4_isPartition
theorem dX4_forced_0 : decode cX4_forced 0 = .ok (.iload_n 1, 1) := by decide +kernel
theorem dX4_forced_1 : decode cX4_forced 1 = .ok (.iload_n 2, 1) := by decide +kernel
theorem dX4_forced_2 : decode cX4_forced 2 = .ok (.invokestatic 100, 3) := by decide +kernel
theorem dX4_forced_5 : decode cX4_forced 5 = .ok (.iconst 0, 1) := by decide +kernel
theorem dX4_forced_6 : decode cX4_forced 6 = .ok (.istore_n 3, 1) := by decide +kernel
theorem dX4_forced_7 : decode cX4_forced 7 = .ok (.sipush 1022, 3) := by decide +kernel
theorem dX4_forced_10 : decode cX4_forced 10 = .ok (.istore 4, 2) := by decide +kernel
theorem dX4_forced_12 : decode cX4_forced 12 = .ok (.iconst 0, 1) := by decide +kernel
theorem dX4_forced_13 : decode cX4_forced 13 = .ok (.istore 5, 2) := by decide +kernel
theorem dX4_forced_15 : decode cX4_forced 15 = .ok (.iload 5, 2) := by decide +kernel
theorem dX4_forced_17 : decode cX4_forced 17 = .ok (.sipush 1022, 3) := by decide +kernel
theorem dX4_forced_20 : decode cX4_forced 20 = .ok (.if_icmp .gt 29, 3) := by decide +kernel
theorem dX4_forced_23 : decode cX4_forced 23 = .ok (.iload 5, 2) := by decide +kernel
theorem dX4_forced_25 : decode cX4_forced 25 = .ok (.iload_n 1, 1) := by decide +kernel
theorem dX4_forced_26 : decode cX4_forced 26 = .ok (.iload_n 2, 1) := by decide +kernel
theorem dX4_forced_27 : decode cX4_forced 27 = .ok (.invokestatic 103, 3) := by decide +kernel
theorem dX4_forced_30 : decode cX4_forced 30 = .ok (.ifCond .eq 13, 3) := by decide +kernel
theorem dX4_forced_33 : decode cX4_forced 33 = .ok (.iinc 3 1, 3) := by decide +kernel
theorem dX4_forced_36 : decode cX4_forced 36 = .ok (.iload 4, 2) := by decide +kernel
theorem dX4_forced_38 : decode cX4_forced 38 = .ok (.iload 5, 2) := by decide +kernel
theorem dX4_forced_40 : decode cX4_forced 40 = .ok (.iand, 1) := by decide +kernel
theorem dX4_forced_41 : decode cX4_forced 41 = .ok (.istore 4, 2) := by decide +kernel
theorem dX4_forced_43 : decode cX4_forced 43 = .ok (.iinc 5 2, 3) := by decide +kernel
theorem dX4_forced_46 : decode cX4_forced 46 = .ok (.goto (-31), 3) := by decide +kernel
theorem dX4_forced_49 : decode cX4_forced 49 = .ok (.iload_n 3, 1) := by decide +kernel
theorem dX4_forced_50 : decode cX4_forced 50 = .ok (.ifCond .ne 7, 3) := by decide +kernel
theorem dX4_forced_53 : decode cX4_forced 53 = .ok (.iconst 0, 1) := by decide +kernel
theorem dX4_forced_54 : decode cX4_forced 54 = .ok (.goto 5, 3) := by decide +kernel
theorem dX4_forced_57 : decode cX4_forced 57 = .ok (.iload 4, 2) := by decide +kernel
theorem dX4_forced_59 : decode cX4_forced 59 = .ok (.ireturn, 1) := by decide +kernel
set_option maxRecDepth 20000 in
theorem ggX4_fillings_X3_refresh : GoodIn wsX4_fillings wsX3_refresh := goodIn_r _ [6, 7, 8, 9, 10, 11, 12, 13, 14, 15, 16, 17, 18, 19, 20, 21, 22, 23, 24, 25, 26, 27, 28, 29, 30, 31, 32, 33, 34, 35, 36, 37, 38, 39, 40, 41, 42, 43, 44, 45, 46, 47, 48, 49, 50, 51, 52, 53, 54, 55, 56, 57, 58, 59, 60, 61, 62, 63, 64, 65, 66, 67, 68, 69, 70, 71, 72, 73, 74, 75, 76, 77, 5, 78, 79, 80, 81, 82, 83, 84, 85, 86, 87, 88, 89, 90, 91, 92, 93, 94, 95, 96, 97, 98, 99, 100, 101, 102, 103, 104, 105, 106, 107, 108, 109, 110, 111, 112, 113, 114, 115, 116, 117, 118, 119, 120, 121, 122, 129, 130, 131, 132, 133, 134, 135, 136, 137, 138, 139, 140, 141, 142, 143, 144, 145, 146, 147, 148, 149, 150] (by decide +kernel) (by decide +kernel)
set_option maxRecDepth 20000 in
theorem gX4_fillings_X3_refresh : GoodIn wsX4_fillings (wsV RX4 107 RX3 yX3_refresh wsX3_refresh) := goodIn_app (goodIn_of _ (by decide +kernel)) ggX4_fillings_X3_refresh
set_option maxRecDepth 20000 in
theorem ggX4_fillings_X3_told : GoodIn wsX4_fillings wsX3_told := goodIn_r _ [126, 10, 113, 114, 115, 5, 116, 9, 129, 130, 131, 132, 133, 134, 135] (by decide +kernel) (by decide +kernel)
set_option maxRecDepth 20000 in
theorem gX4_fillings_X3_told : GoodIn wsX4_fillings (wsV RX4 110 RX3 yX3_told wsX3_told) := goodIn_app (goodIn_of _ (by decide +kernel)) ggX4_fillings_X3_told
theorem dX4_fillings_0 : decode cX4_fillings 0 = .ok (.aload_n 0, 1) := by decide +kernel
theorem dX4_fillings_1 : decode cX4_fillings 1 = .ok (.getfield 21, 3) := by decide +kernel
theorem dX4_fillings_4 : decode cX4_fillings 4 = .ok (.invokevirtual 107, 3) := by decide +kernel
theorem dX4_fillings_7 : decode cX4_fillings 7 = .ok (.aload_n 0, 1) := by decide +kernel
theorem dX4_fillings_8 : decode cX4_fillings 8 = .ok (.getfield 21, 3) := by decide +kernel
theorem dX4_fillings_11 : decode cX4_fillings 11 = .ok (.invokevirtual 110, 3) := by decide +kernel
theorem dX4_fillings_14 : decode cX4_fillings 14 = .ok (.ireturn, 1) := by decide +kernel
set_option maxRecDepth 20000 in
theorem ggX4_tries_X3_refresh : GoodIn wsX4_tries wsX3_refresh := goodIn_r _ [6, 7, 8, 9, 10, 11, 12, 13, 14, 15, 16, 17, 18, 19, 20, 21, 22, 23, 24, 25, 26, 27, 28, 29, 30, 31, 32, 33, 34, 35, 36, 37, 38, 39, 40, 41, 42, 43, 44, 45, 46, 47, 48, 49, 50, 51, 52, 53, 54, 55, 56, 57, 58, 59, 60, 61, 62, 63, 64, 65, 66, 67, 68, 69, 70, 71, 72, 73, 74, 75, 76, 77, 5, 78, 79, 80, 81, 82, 83, 84, 85, 86, 87, 88, 89, 90, 91, 92, 93, 94, 95, 96, 97, 98, 99, 100, 101, 102, 103, 104, 105, 106, 107, 108, 109, 110, 111, 112, 113, 114, 115, 116, 117, 118, 119, 120, 121, 122, 129, 130, 131, 132, 133, 134, 135, 136, 137, 138, 139, 140, 141, 142, 143, 144, 145, 146, 147, 148, 149, 150] (by decide +kernel) (by decide +kernel)
set_option maxRecDepth 20000 in
theorem gX4_tries_X3_refresh : GoodIn wsX4_tries (wsV RX4 107 RX3 yX3_refresh wsX3_refresh) := goodIn_app (goodIn_of _ (by decide +kernel)) ggX4_tries_X3_refresh
set_option maxRecDepth 20000 in
theorem ggX4_tries_X3_tried : GoodIn wsX4_tries wsX3_tried := goodIn_r _ [126, 9, 129, 130, 131, 132, 133, 134, 135] (by decide +kernel) (by decide +kernel)
set_option maxRecDepth 20000 in
theorem gX4_tries_X3_tried : GoodIn wsX4_tries (wsV RX4 113 RX3 yX3_tried wsX3_tried) := goodIn_app (goodIn_of _ (by decide +kernel)) ggX4_tries_X3_tried
theorem dX4_tries_0 : decode cX4_tries 0 = .ok (.aload_n 0, 1) := by decide +kernel
theorem dX4_tries_1 : decode cX4_tries 1 = .ok (.getfield 21, 3) := by decide +kernel
theorem dX4_tries_4 : decode cX4_tries 4 = .ok (.invokevirtual 107, 3) := by decide +kernel
theorem dX4_tries_7 : decode cX4_tries 7 = .ok (.aload_n 0, 1) := by decide +kernel
theorem dX4_tries_8 : decode cX4_tries 8 = .ok (.getfield 21, 3) := by decide +kernel
theorem dX4_tries_11 : decode cX4_tries 11 = .ok (.invokevirtual 113, 3) := by decide +kernel
theorem dX4_tries_14 : decode cX4_tries 14 = .ok (.ireturn, 1) := by decide +kernel
set_option maxRecDepth 20000 in
theorem ggX4_solved_X4_checkCell : GoodIn wsX4_solved wsX4_checkCell := goodIn_ca (goodIn_r _ [7, 8, 9, 1, 10, 11, 12, 13, 14, 15, 16, 17, 18, 19, 20, 142, 143, 144, 145, 146, 147, 148] (by decide +kernel) (by decide +kernel)) (goodIn_sub (fun _ h => List.mem_cons_of_mem _ (List.mem_append_right _ h)) (by decide +kernel))
set_option maxRecDepth 20000 in
theorem gX4_solved_X4_checkCell : GoodIn wsX4_solved (wsV RX4 43 RX4 yX4_checkCell wsX4_checkCell) := goodIn_app (goodIn_of _ (by decide +kernel)) ggX4_solved_X4_checkCell
set_option maxRecDepth 20000 in
theorem ggX4_solved_X1_isPillar : GoodIn wsX4_solved wsX1_isPillar := goodIn_r _ [24, 25, 26, 6, 27, 144, 145, 146, 147, 148] (by decide +kernel) (by decide +kernel)
set_option maxRecDepth 20000 in
theorem gX4_solved_X1_isPillar : GoodIn wsX4_solved (wsV RX4 50 RX1 yX1_isPillar wsX1_isPillar) := goodIn_app (goodIn_of _ (by decide +kernel)) ggX4_solved_X1_isPillar
set_option maxRecDepth 20000 in
theorem ggX4_solved_X3_refresh : GoodIn wsX4_solved wsX3_refresh := goodIn_r _ [32, 33, 34, 35, 36, 37, 38, 39, 40, 13, 41, 42, 43, 44, 45, 46, 47, 15, 16, 17, 18, 19, 20, 48, 49, 50, 51, 52, 53, 26, 6, 27, 54, 55, 56, 57, 58, 59, 60, 61, 62, 63, 64, 65, 66, 67, 68, 69, 70, 71, 72, 73, 74, 75, 76, 77, 78, 79, 80, 81, 82, 83, 84, 85, 86, 87, 88, 89, 90, 91, 92, 93, 31, 94, 95, 96, 97, 98, 99, 100, 25, 101, 102, 103, 104, 105, 106, 107, 108, 109, 110, 111, 112, 113, 114, 115, 116, 117, 118, 119, 120, 121, 122, 123, 124, 125, 126, 127, 128, 129, 130, 131, 132, 133, 134, 135, 136, 137, 149, 150, 151, 152, 153, 154, 155, 144, 145, 146, 147, 148, 156, 157, 158, 159, 160, 161, 162, 163, 164, 165] (by decide +kernel) (by decide +kernel)
set_option maxRecDepth 20000 in
theorem gX4_solved_X3_refresh : GoodIn wsX4_solved (wsV RX4 107 RX3 yX3_refresh wsX3_refresh) := goodIn_app (goodIn_of _ (by decide +kernel)) ggX4_solved_X3_refresh
set_option maxRecDepth 20000 in
theorem ggX4_solved_X3_firstFilling : GoodIn wsX4_solved wsX3_firstFilling := goodIn_r _ [141, 36, 110, 128, 129, 130, 31, 131, 35, 26, 6, 27, 149, 150, 151, 152, 153, 154, 155] (by decide +kernel) (by decide +kernel)
set_option maxRecDepth 20000 in
theorem gX4_solved_X3_firstFilling : GoodIn wsX4_solved (wsV RX4 116 RX3 yX3_firstFilling wsX3_firstFilling) := goodIn_app (goodIn_of _ (by decide +kernel)) ggX4_solved_X3_firstFilling
theorem dX4_solved_0 : decode cX4_solved 0 = .ok (.aload_n 0, 1) := by decide +kernel
theorem dX4_solved_1 : decode cX4_solved 1 = .ok (.iload_n 1, 1) := by decide +kernel
theorem dX4_solved_2 : decode cX4_solved 2 = .ok (.invokevirtual 43, 3) := by decide +kernel
theorem dX4_solved_5 : decode cX4_solved 5 = .ok (.aload_n 0, 1) := by decide +kernel
theorem dX4_solved_6 : decode cX4_solved 6 = .ok (.getfield 10, 3) := by decide +kernel
theorem dX4_solved_9 : decode cX4_solved 9 = .ok (.iload_n 1, 1) := by decide +kernel
theorem dX4_solved_10 : decode cX4_solved 10 = .ok (.invokevirtual 50, 3) := by decide +kernel
theorem dX4_solved_13 : decode cX4_solved 13 = .ok (.ifCond .eq 5, 3) := by decide +kernel
theorem dX4_solved_16 : decode cX4_solved 16 = .ok (.iconst 0, 1) := by decide +kernel
theorem dX4_solved_17 : decode cX4_solved 17 = .ok (.ireturn, 1) := by decide +kernel
theorem dX4_solved_18 : decode cX4_solved 18 = .ok (.aload_n 0, 1) := by decide +kernel
theorem dX4_solved_19 : decode cX4_solved 19 = .ok (.getfield 21, 3) := by decide +kernel
theorem dX4_solved_22 : decode cX4_solved 22 = .ok (.invokevirtual 107, 3) := by decide +kernel
theorem dX4_solved_25 : decode cX4_solved 25 = .ok (.aload_n 0, 1) := by decide +kernel
theorem dX4_solved_26 : decode cX4_solved 26 = .ok (.getfield 21, 3) := by decide +kernel
theorem dX4_solved_29 : decode cX4_solved 29 = .ok (.iload_n 1, 1) := by decide +kernel
theorem dX4_solved_30 : decode cX4_solved 30 = .ok (.invokevirtual 116, 3) := by decide +kernel
theorem dX4_solved_33 : decode cX4_solved 33 = .ok (.ireturn, 1) := by decide +kernel
set_option maxRecDepth 20000 in
theorem ggX4_next_X1_tightest : GoodIn wsX4_next wsX1_tightest := goodIn_r _ [6, 7, 8, 9, 5, 10, 11, 12, 13, 14, 15, 16, 17, 18, 19, 20, 21, 22, 23, 24, 25, 26, 27, 28, 29, 30, 31, 32, 33, 34, 35, 36, 37, 38, 39, 40, 41, 42, 43, 44, 45, 46, 47, 48, 49, 50, 51, 52, 53, 54, 55, 56, 57, 58, 59, 60, 61, 62, 65, 66, 67, 68, 69, 70, 71, 72, 73, 74, 75, 76, 77, 78, 79] (by decide +kernel) (by decide +kernel)
set_option maxRecDepth 20000 in
theorem gX4_next_X1_tightest : GoodIn wsX4_next (wsV RX4 119 RX1 yX1_tightest wsX1_tightest) := goodIn_app (goodIn_of _ (by decide +kernel)) ggX4_next_X1_tightest
theorem dX4_next_0 : decode cX4_next 0 = .ok (.aload_n 0, 1) := by decide +kernel
theorem dX4_next_1 : decode cX4_next 1 = .ok (.getfield 10, 3) := by decide +kernel
theorem dX4_next_4 : decode cX4_next 4 = .ok (.invokevirtual 119, 3) := by decide +kernel
theorem dX4_next_7 : decode cX4_next 7 = .ok (.ireturn, 1) := by decide +kernel
set_option maxRecDepth 20000 in
theorem ggX4_mean_X1_meanOfNumbers : GoodIn wsX4_mean wsX1_meanOfNumbers := goodIn_r _ [6, 7, 8, 9, 5, 10, 11, 12, 13, 14, 15, 16, 17, 18, 19, 20, 21, 22, 23, 24, 25, 26, 27, 28, 29, 30, 31, 32, 33, 34, 35, 36, 37, 38, 39, 40, 41, 42, 43, 44, 45, 46, 47, 48, 49, 50, 51, 52, 53, 54, 55, 56, 57, 58, 59, 60, 61, 62, 65, 66, 67, 68, 69, 70, 71, 72, 73, 74, 75, 76, 77, 78, 79] (by decide +kernel) (by decide +kernel)
set_option maxRecDepth 20000 in
theorem gX4_mean_X1_meanOfNumbers : GoodIn wsX4_mean (wsV RX4 124 RX1 yX1_meanOfNumbers wsX1_meanOfNumbers) := goodIn_app (goodIn_of _ (by decide +kernel)) ggX4_mean_X1_meanOfNumbers
theorem dX4_mean_0 : decode cX4_mean 0 = .ok (.aload_n 0, 1) := by decide +kernel
theorem dX4_mean_1 : decode cX4_mean 1 = .ok (.getfield 10, 3) := by decide +kernel
theorem dX4_mean_4 : decode cX4_mean 4 = .ok (.invokevirtual 124, 3) := by decide +kernel
theorem dX4_mean_7 : decode cX4_mean 7 = .ok (.dreturn, 1) := by decide +kernel
set_option maxRecDepth 20000 in
theorem ggX4_digest_X1_tally : GoodIn wsX4_digest wsX1_tally := goodIn_r _ [8, 9, 10, 11, 12, 13, 14, 7, 15, 16, 17, 18, 19, 20, 21, 22, 23, 24, 25, 26, 27, 28, 29, 30, 31, 32, 33, 34, 35, 36, 37, 38, 39, 40, 41, 42, 43, 44, 45, 46, 47, 48, 49, 50, 51, 52, 53, 54, 55, 56, 57, 58, 59, 60, 61, 62, 63, 64, 65, 66, 67, 68, 69, 70, 71, 72, 73, 74, 75, 76, 77, 78, 79, 80, 81, 82, 83, 84, 85, 86, 87, 88, 89, 90, 91, 92, 93, 94, 95, 96, 97, 98, 99, 100, 101, 102, 103, 104, 189, 190, 191, 192, 193, 194, 195, 196, 197, 198, 199, 200, 201, 202, 203] (by decide +kernel) (by decide +kernel)
set_option maxRecDepth 20000 in
theorem gX4_digest_X1_tally : GoodIn wsX4_digest (wsV RX4 97 RX1 yX1_tally wsX1_tally) := goodIn_app (goodIn_of _ (by decide +kernel)) ggX4_digest_X1_tally
set_option maxRecDepth 20000 in
theorem ggX4_digest_X4_stir : GoodIn wsX4_digest wsX4_stir := goodIn_r _ [107, 108] (by decide +kernel) (by decide +kernel)
set_option maxRecDepth 20000 in
theorem gX4_digest_X4_stir : GoodIn wsX4_digest (va_wsS RX4 130 yX4_stir wsX4_stir) := goodIn_app (goodIn_of _ (by decide +kernel)) ggX4_digest_X4_stir
set_option maxRecDepth 20000 in
theorem ggX4_digest_X1_cells : GoodIn wsX4_digest wsX1_cells := goodIn_r _ [15, 9, 16, 189, 190, 191, 192, 193] (by decide +kernel) (by decide +kernel)
set_option maxRecDepth 20000 in
theorem gX4_digest_X1_cells : GoodIn wsX4_digest (wsV RX4 39 RX1 yX1_cells wsX1_cells) := goodIn_app (goodIn_of _ (by decide +kernel)) ggX4_digest_X1_cells
set_option maxRecDepth 20000 in
theorem ggX4_digest_X4_stirCell : GoodIn wsX4_digest wsX4_stirCell := goodIn_r _ [113, 2, 114, 115, 116, 7, 117, 25, 26, 27, 28, 105, 106, 107, 108, 118, 119, 120, 121, 11, 10, 122, 48, 49, 40, 50, 51, 123, 97, 98, 99, 92, 93, 94, 95, 100, 101, 102, 103, 42, 63, 60, 61, 64, 62, 65, 66, 67, 68, 69, 70, 71, 72, 73, 74, 75, 76, 77, 78, 79, 80, 81, 82, 83, 84, 85, 86, 87, 124, 125, 126, 127, 128, 129, 130, 131, 57, 58, 59, 187, 188, 189, 190, 191, 192, 193, 194, 195, 196, 197, 198, 199, 200, 201, 202, 203] (by decide +kernel) (by decide +kernel)
set_option maxRecDepth 20000 in
theorem gX4_digest_X4_stirCell : GoodIn wsX4_digest (wsV RX4 134 RX4 yX4_stirCell wsX4_stirCell) := goodIn_app (goodIn_of _ (by decide +kernel)) ggX4_digest_X4_stirCell
set_option maxRecDepth 20000 in
theorem ggX4_digest_X3_refresh : GoodIn wsX4_digest wsX3_refresh := goodIn_r _ [136, 137, 138, 139, 140, 141, 142, 143, 144, 7, 145, 10, 11, 52, 53, 54, 55, 12, 13, 14, 15, 9, 16, 37, 38, 39, 40, 41, 42, 26, 27, 28, 56, 57, 58, 59, 51, 60, 61, 62, 63, 64, 65, 66, 67, 68, 69, 70, 71, 72, 73, 74, 75, 76, 77, 78, 79, 80, 81, 82, 83, 84, 85, 86, 87, 33, 34, 35, 36, 146, 147, 148, 135, 149, 150, 151, 152, 93, 94, 95, 25, 153, 154, 155, 156, 157, 158, 159, 160, 161, 162, 163, 115, 116, 117, 164, 97, 98, 99, 92, 100, 101, 102, 103, 165, 166, 167, 168, 169, 170, 171, 172, 173, 174, 175, 176, 177, 178, 204, 205, 206, 207, 208, 209, 210, 189, 190, 191, 192, 193, 194, 195, 196, 197, 198, 199, 200, 201, 202, 203] (by decide +kernel) (by decide +kernel)
set_option maxRecDepth 20000 in
theorem gX4_digest_X3_refresh : GoodIn wsX4_digest (wsV RX4 107 RX3 yX3_refresh wsX3_refresh) := goodIn_app (goodIn_of _ (by decide +kernel)) ggX4_digest_X3_refresh
set_option maxRecDepth 20000 in
theorem ggX4_digest_X3_told : GoodIn wsX4_digest wsX3_told := goodIn_r _ [182, 140, 169, 170, 171, 135, 172, 139, 204, 205, 206, 207, 208, 209, 210] (by decide +kernel) (by decide +kernel)
set_option maxRecDepth 20000 in
theorem gX4_digest_X3_told : GoodIn wsX4_digest (wsV RX4 110 RX3 yX3_told wsX3_told) := goodIn_app (goodIn_of _ (by decide +kernel)) ggX4_digest_X3_told
set_option maxRecDepth 20000 in
theorem ggX4_digest_X3_tried : GoodIn wsX4_digest wsX3_tried := goodIn_r _ [186, 139, 204, 205, 206, 207, 208, 209, 210] (by decide +kernel) (by decide +kernel)
set_option maxRecDepth 20000 in
theorem gX4_digest_X3_tried : GoodIn wsX4_digest (wsV RX4 113 RX3 yX3_tried wsX3_tried) := goodIn_app (goodIn_of _ (by decide +kernel)) ggX4_digest_X3_tried
theorem dX4_digest_0 : decode cX4_digest 0 = .ok (.ldc2_w 128, 3) := by decide +kernel
theorem dX4_digest_3 : decode cX4_digest 3 = .ok (.lstore_n 1, 1) := by decide +kernel
theorem dX4_digest_4 : decode cX4_digest 4 = .ok (.iconst 0, 1) := by decide +kernel
theorem dX4_digest_5 : decode cX4_digest 5 = .ok (.istore_n 3, 1) := by decide +kernel
theorem dX4_digest_6 : decode cX4_digest 6 = .ok (.iload_n 3, 1) := by decide +kernel
theorem dX4_digest_7 : decode cX4_digest 7 = .ok (.bipush 9, 2) := by decide +kernel
theorem dX4_digest_9 : decode cX4_digest 9 = .ok (.if_icmp .ge 22, 3) := by decide +kernel
theorem dX4_digest_12 : decode cX4_digest 12 = .ok (.lload_n 1, 1) := by decide +kernel
theorem dX4_digest_13 : decode cX4_digest 13 = .ok (.aload_n 0, 1) := by decide +kernel
theorem dX4_digest_14 : decode cX4_digest 14 = .ok (.getfield 10, 3) := by decide +kernel
theorem dX4_digest_17 : decode cX4_digest 17 = .ok (.iload_n 3, 1) := by decide +kernel
theorem dX4_digest_18 : decode cX4_digest 18 = .ok (.invokevirtual 97, 3) := by decide +kernel
theorem dX4_digest_21 : decode cX4_digest 21 = .ok (.invokestatic 130, 3) := by decide +kernel
theorem dX4_digest_24 : decode cX4_digest 24 = .ok (.lstore_n 1, 1) := by decide +kernel
theorem dX4_digest_25 : decode cX4_digest 25 = .ok (.iinc 3 1, 3) := by decide +kernel
theorem dX4_digest_28 : decode cX4_digest 28 = .ok (.goto (-22), 3) := by decide +kernel
theorem dX4_digest_31 : decode cX4_digest 31 = .ok (.iconst 0, 1) := by decide +kernel
theorem dX4_digest_32 : decode cX4_digest 32 = .ok (.istore_n 3, 1) := by decide +kernel
theorem dX4_digest_33 : decode cX4_digest 33 = .ok (.iload_n 3, 1) := by decide +kernel
theorem dX4_digest_34 : decode cX4_digest 34 = .ok (.aload_n 0, 1) := by decide +kernel
theorem dX4_digest_35 : decode cX4_digest 35 = .ok (.getfield 10, 3) := by decide +kernel
theorem dX4_digest_38 : decode cX4_digest 38 = .ok (.invokevirtual 39, 3) := by decide +kernel
theorem dX4_digest_41 : decode cX4_digest 41 = .ok (.if_icmp .ge 16, 3) := by decide +kernel
theorem dX4_digest_44 : decode cX4_digest 44 = .ok (.aload_n 0, 1) := by decide +kernel
theorem dX4_digest_45 : decode cX4_digest 45 = .ok (.lload_n 1, 1) := by decide +kernel
theorem dX4_digest_46 : decode cX4_digest 46 = .ok (.iload_n 3, 1) := by decide +kernel
theorem dX4_digest_47 : decode cX4_digest 47 = .ok (.invokevirtual 134, 3) := by decide +kernel
theorem dX4_digest_50 : decode cX4_digest 50 = .ok (.lstore_n 1, 1) := by decide +kernel
theorem dX4_digest_51 : decode cX4_digest 51 = .ok (.iinc 3 1, 3) := by decide +kernel
theorem dX4_digest_54 : decode cX4_digest 54 = .ok (.goto (-21), 3) := by decide +kernel
theorem dX4_digest_57 : decode cX4_digest 57 = .ok (.aload_n 0, 1) := by decide +kernel
theorem dX4_digest_58 : decode cX4_digest 58 = .ok (.getfield 21, 3) := by decide +kernel
theorem dX4_digest_61 : decode cX4_digest 61 = .ok (.invokevirtual 107, 3) := by decide +kernel
theorem dX4_digest_64 : decode cX4_digest 64 = .ok (.lload_n 1, 1) := by decide +kernel
theorem dX4_digest_65 : decode cX4_digest 65 = .ok (.aload_n 0, 1) := by decide +kernel
theorem dX4_digest_66 : decode cX4_digest 66 = .ok (.getfield 21, 3) := by decide +kernel
theorem dX4_digest_69 : decode cX4_digest 69 = .ok (.invokevirtual 110, 3) := by decide +kernel
theorem dX4_digest_72 : decode cX4_digest 72 = .ok (.invokestatic 130, 3) := by decide +kernel
theorem dX4_digest_75 : decode cX4_digest 75 = .ok (.lstore_n 1, 1) := by decide +kernel
theorem dX4_digest_76 : decode cX4_digest 76 = .ok (.lload_n 1, 1) := by decide +kernel
theorem dX4_digest_77 : decode cX4_digest 77 = .ok (.aload_n 0, 1) := by decide +kernel
theorem dX4_digest_78 : decode cX4_digest 78 = .ok (.getfield 21, 3) := by decide +kernel
theorem dX4_digest_81 : decode cX4_digest 81 = .ok (.invokevirtual 113, 3) := by decide +kernel
theorem dX4_digest_84 : decode cX4_digest 84 = .ok (.invokestatic 130, 3) := by decide +kernel
theorem dX4_digest_87 : decode cX4_digest 87 = .ok (.lreturn, 1) := by decide +kernel
set_option maxRecDepth 20000 in
theorem ggX4_stirCell_X1_stoneAt : GoodIn wsX4_stirCell wsX1_stoneAt := goodIn_r _ [6, 7, 8, 9, 10, 81, 82, 83, 84, 85] (by decide +kernel) (by decide +kernel)
set_option maxRecDepth 20000 in
theorem gX4_stirCell_X1_stoneAt : GoodIn wsX4_stirCell (wsV RX4 71 RX1 yX1_stoneAt wsX1_stoneAt) := goodIn_app (goodIn_of _ (by decide +kernel)) ggX4_stirCell_X1_stoneAt
set_option maxRecDepth 20000 in
theorem ggX4_stirCell_X4_stir : GoodIn wsX4_stirCell wsX4_stir := goodIn_r _ [13, 14] (by decide +kernel) (by decide +kernel)
set_option maxRecDepth 20000 in
theorem gX4_stirCell_X4_stir : GoodIn wsX4_stirCell (va_wsS RX4 130 yX4_stir wsX4_stir) := goodIn_app (goodIn_of _ (by decide +kernel)) ggX4_stirCell_X4_stir
set_option maxRecDepth 20000 in
theorem ggX4_stirCell_X1_corridors : GoodIn wsX4_stirCell wsX1_corridors := goodIn_r _ [18, 19, 20, 81, 82, 83, 84, 85] (by decide +kernel) (by decide +kernel)
set_option maxRecDepth 20000 in
theorem gX4_stirCell_X1_corridors : GoodIn wsX4_stirCell (wsV RX4 56 RX1 yX1_corridors wsX1_corridors) := goodIn_app (goodIn_of _ (by decide +kernel)) ggX4_stirCell_X1_corridors
set_option maxRecDepth 20000 in
theorem ggX4_stirCell_X0_toldAt : GoodIn wsX4_stirCell wsX0_toldAt := goodIn_r _ [25, 26, 8, 9, 10, 86, 87, 88, 89, 90, 91, 92, 93, 94] (by decide +kernel) (by decide +kernel)
set_option maxRecDepth 20000 in
theorem gX4_stirCell_X0_toldAt : GoodIn wsX4_stirCell (wsV RX4 137 RX0 yX0_toldAt wsX0_toldAt) := goodIn_app (goodIn_of _ (by decide +kernel)) ggX4_stirCell_X0_toldAt
set_option maxRecDepth 20000 in
theorem ggX4_stirCell_X1_numbersFor : GoodIn wsX4_stirCell wsX1_numbersFor := goodIn_r _ [30, 20, 19, 31, 32, 33, 5, 34, 7, 8, 9, 10, 35, 36, 37, 24, 38, 39, 40, 26, 41, 42, 43, 44, 45, 46, 47, 48, 49, 50, 51, 52, 53, 54, 55, 56, 57, 58, 59, 60, 61, 62, 63, 64, 65, 66, 67, 81, 82, 83, 84, 85, 86, 87, 88, 89, 90, 91, 92, 93, 94, 95] (by decide +kernel) (by decide +kernel)
set_option maxRecDepth 20000 in
theorem gX4_stirCell_X1_numbersFor : GoodIn wsX4_stirCell (wsV RX4 81 RX1 yX1_numbersFor wsX1_numbersFor) := goodIn_app (goodIn_of _ (by decide +kernel)) ggX4_stirCell_X1_numbersFor
set_option maxRecDepth 20000 in
theorem ggX4_stirCell_X4_stirCorridor : GoodIn wsX4_stirCell wsX4_stirCorridor := goodIn_r _ [70, 71, 72, 73, 24, 74, 39, 41, 26, 42, 43, 8, 9, 10, 45, 46, 47, 48, 40, 49, 50, 75, 76, 77, 78, 44, 51, 52, 53, 54, 55, 56, 57, 58, 59, 60, 61, 62, 63, 64, 65, 66, 67, 11, 12, 13, 14, 86, 87, 88, 89, 90, 91, 92, 93, 94, 95] (by decide +kernel) (by decide +kernel)
set_option maxRecDepth 20000 in
theorem gX4_stirCell_X4_stirCorridor : GoodIn wsX4_stirCell (va_wsS RX4 140 yX4_stirCorridor wsX4_stirCorridor) := goodIn_app (goodIn_of _ (by decide +kernel)) ggX4_stirCell_X4_stirCorridor
theorem dX4_stirCell_0 : decode cX4_stirCell 0 = .ok (.lload_n 1, 1) := by decide +kernel
theorem dX4_stirCell_1 : decode cX4_stirCell 1 = .ok (.aload_n 0, 1) := by decide +kernel
theorem dX4_stirCell_2 : decode cX4_stirCell 2 = .ok (.getfield 10, 3) := by decide +kernel
theorem dX4_stirCell_5 : decode cX4_stirCell 5 = .ok (.iload_n 3, 1) := by decide +kernel
theorem dX4_stirCell_6 : decode cX4_stirCell 6 = .ok (.invokevirtual 71, 3) := by decide +kernel
theorem dX4_stirCell_9 : decode cX4_stirCell 9 = .ok (.invokestatic 130, 3) := by decide +kernel
theorem dX4_stirCell_12 : decode cX4_stirCell 12 = .ok (.lstore 4, 2) := by decide +kernel
theorem dX4_stirCell_14 : decode cX4_stirCell 14 = .ok (.lload 4, 2) := by decide +kernel
theorem dX4_stirCell_16 : decode cX4_stirCell 16 = .ok (.aload_n 0, 1) := by decide +kernel
theorem dX4_stirCell_17 : decode cX4_stirCell 17 = .ok (.getfield 10, 3) := by decide +kernel
theorem dX4_stirCell_20 : decode cX4_stirCell 20 = .ok (.iconst 0, 1) := by decide +kernel
theorem dX4_stirCell_21 : decode cX4_stirCell 21 = .ok (.invokevirtual 56, 3) := by decide +kernel
theorem dX4_stirCell_24 : decode cX4_stirCell 24 = .ok (.iload_n 3, 1) := by decide +kernel
theorem dX4_stirCell_25 : decode cX4_stirCell 25 = .ok (.invokevirtual 137, 3) := by decide +kernel
theorem dX4_stirCell_28 : decode cX4_stirCell 28 = .ok (.invokestatic 130, 3) := by decide +kernel
theorem dX4_stirCell_31 : decode cX4_stirCell 31 = .ok (.lstore 4, 2) := by decide +kernel
theorem dX4_stirCell_33 : decode cX4_stirCell 33 = .ok (.lload 4, 2) := by decide +kernel
theorem dX4_stirCell_35 : decode cX4_stirCell 35 = .ok (.aload_n 0, 1) := by decide +kernel
theorem dX4_stirCell_36 : decode cX4_stirCell 36 = .ok (.getfield 10, 3) := by decide +kernel
theorem dX4_stirCell_39 : decode cX4_stirCell 39 = .ok (.iconst 1, 1) := by decide +kernel
theorem dX4_stirCell_40 : decode cX4_stirCell 40 = .ok (.invokevirtual 56, 3) := by decide +kernel
theorem dX4_stirCell_43 : decode cX4_stirCell 43 = .ok (.iload_n 3, 1) := by decide +kernel
theorem dX4_stirCell_44 : decode cX4_stirCell 44 = .ok (.invokevirtual 137, 3) := by decide +kernel
theorem dX4_stirCell_47 : decode cX4_stirCell 47 = .ok (.invokestatic 130, 3) := by decide +kernel
theorem dX4_stirCell_50 : decode cX4_stirCell 50 = .ok (.lstore 4, 2) := by decide +kernel
theorem dX4_stirCell_52 : decode cX4_stirCell 52 = .ok (.lload 4, 2) := by decide +kernel
theorem dX4_stirCell_54 : decode cX4_stirCell 54 = .ok (.aload_n 0, 1) := by decide +kernel
theorem dX4_stirCell_55 : decode cX4_stirCell 55 = .ok (.getfield 10, 3) := by decide +kernel
theorem dX4_stirCell_58 : decode cX4_stirCell 58 = .ok (.iload_n 3, 1) := by decide +kernel
theorem dX4_stirCell_59 : decode cX4_stirCell 59 = .ok (.invokevirtual 81, 3) := by decide +kernel
theorem dX4_stirCell_62 : decode cX4_stirCell 62 = .ok (.invokestatic 130, 3) := by decide +kernel
theorem dX4_stirCell_65 : decode cX4_stirCell 65 = .ok (.lstore 4, 2) := by decide +kernel
theorem dX4_stirCell_67 : decode cX4_stirCell 67 = .ok (.lload 4, 2) := by decide +kernel
theorem dX4_stirCell_69 : decode cX4_stirCell 69 = .ok (.aload_n 0, 1) := by decide +kernel
theorem dX4_stirCell_70 : decode cX4_stirCell 70 = .ok (.getfield 10, 3) := by decide +kernel
theorem dX4_stirCell_73 : decode cX4_stirCell 73 = .ok (.iconst 0, 1) := by decide +kernel
theorem dX4_stirCell_74 : decode cX4_stirCell 74 = .ok (.invokevirtual 56, 3) := by decide +kernel
theorem dX4_stirCell_77 : decode cX4_stirCell 77 = .ok (.iload_n 3, 1) := by decide +kernel
theorem dX4_stirCell_78 : decode cX4_stirCell 78 = .ok (.invokestatic 140, 3) := by decide +kernel
theorem dX4_stirCell_81 : decode cX4_stirCell 81 = .ok (.lstore 4, 2) := by decide +kernel
theorem dX4_stirCell_83 : decode cX4_stirCell 83 = .ok (.lload 4, 2) := by decide +kernel
theorem dX4_stirCell_85 : decode cX4_stirCell 85 = .ok (.aload_n 0, 1) := by decide +kernel
theorem dX4_stirCell_86 : decode cX4_stirCell 86 = .ok (.getfield 10, 3) := by decide +kernel
theorem dX4_stirCell_89 : decode cX4_stirCell 89 = .ok (.iconst 1, 1) := by decide +kernel
theorem dX4_stirCell_90 : decode cX4_stirCell 90 = .ok (.invokevirtual 56, 3) := by decide +kernel
theorem dX4_stirCell_93 : decode cX4_stirCell 93 = .ok (.iload_n 3, 1) := by decide +kernel
theorem dX4_stirCell_94 : decode cX4_stirCell 94 = .ok (.invokestatic 140, 3) := by decide +kernel
theorem dX4_stirCell_97 : decode cX4_stirCell 97 = .ok (.lreturn, 1) := by decide +kernel
set_option maxRecDepth 20000 in
theorem ggX4_stirCorridor_X0_tell : GoodIn wsX4_stirCorridor wsX0_tell := goodIn_r _ [5, 6, 7, 8, 9, 10, 11, 12, 13, 14, 15, 16, 4, 17, 18, 19, 20, 21, 22, 23, 24, 25, 26, 27, 28, 29, 30, 31, 32, 33, 34, 35, 36, 37, 38, 39, 40, 41, 42, 47, 48, 49, 50, 51, 52, 53, 54, 55, 56] (by decide +kernel) (by decide +kernel)
set_option maxRecDepth 20000 in
theorem gX4_stirCorridor_X0_tell : GoodIn wsX4_stirCorridor (wsV RX4 92 RX0 yX0_tell wsX0_tell) := goodIn_app (goodIn_of _ (by decide +kernel)) ggX4_stirCorridor_X0_tell
set_option maxRecDepth 20000 in
theorem ggX4_stirCorridor_X4_stir : GoodIn wsX4_stirCorridor wsX4_stir := goodIn_r _ [45, 46] (by decide +kernel) (by decide +kernel)
set_option maxRecDepth 20000 in
theorem gX4_stirCorridor_X4_stir : GoodIn wsX4_stirCorridor (va_wsS RX4 130 yX4_stir wsX4_stir) := goodIn_app (goodIn_of _ (by decide +kernel)) ggX4_stirCorridor_X4_stir
theorem dX4_stirCorridor_0 : decode cX4_stirCorridor 0 = .ok (.lload_n 0, 1) := by decide +kernel
theorem dX4_stirCorridor_1 : decode cX4_stirCorridor 1 = .ok (.lstore 4, 2) := by decide +kernel
theorem dX4_stirCorridor_3 : decode cX4_stirCorridor 3 = .ok (.iconst 0, 1) := by decide +kernel
theorem dX4_stirCorridor_4 : decode cX4_stirCorridor 4 = .ok (.istore 6, 2) := by decide +kernel
theorem dX4_stirCorridor_6 : decode cX4_stirCorridor 6 = .ok (.iload 6, 2) := by decide +kernel
theorem dX4_stirCorridor_8 : decode cX4_stirCorridor 8 = .ok (.bipush 6, 2) := by decide +kernel
theorem dX4_stirCorridor_10 : decode cX4_stirCorridor 10 = .ok (.if_icmp .ge 23, 3) := by decide +kernel
theorem dX4_stirCorridor_13 : decode cX4_stirCorridor 13 = .ok (.lload 4, 2) := by decide +kernel
theorem dX4_stirCorridor_15 : decode cX4_stirCorridor 15 = .ok (.aload_n 2, 1) := by decide +kernel
theorem dX4_stirCorridor_16 : decode cX4_stirCorridor 16 = .ok (.iload_n 3, 1) := by decide +kernel
theorem dX4_stirCorridor_17 : decode cX4_stirCorridor 17 = .ok (.iload 6, 2) := by decide +kernel
theorem dX4_stirCorridor_19 : decode cX4_stirCorridor 19 = .ok (.invokevirtual 92, 3) := by decide +kernel
theorem dX4_stirCorridor_22 : decode cX4_stirCorridor 22 = .ok (.invokestatic 130, 3) := by decide +kernel
theorem dX4_stirCorridor_25 : decode cX4_stirCorridor 25 = .ok (.lstore 4, 2) := by decide +kernel
theorem dX4_stirCorridor_27 : decode cX4_stirCorridor 27 = .ok (.iinc 6 1, 3) := by decide +kernel
theorem dX4_stirCorridor_30 : decode cX4_stirCorridor 30 = .ok (.goto (-24), 3) := by decide +kernel
theorem dX4_stirCorridor_33 : decode cX4_stirCorridor 33 = .ok (.lload 4, 2) := by decide +kernel
theorem dX4_stirCorridor_35 : decode cX4_stirCorridor 35 = .ok (.lreturn, 1) := by decide +kernel
theorem dX4_stir_0 : decode cX4_stir 0 = .ok (.lload_n 0, 1) := by decide +kernel
theorem dX4_stir_1 : decode cX4_stir 1 = .ok (.ldc2_w 144, 3) := by decide +kernel
theorem dX4_stir_4 : decode cX4_stir 4 = .ok (.lmul, 1) := by decide +kernel
theorem dX4_stir_5 : decode cX4_stir 5 = .ok (.iload_n 2, 1) := by decide +kernel
theorem dX4_stir_6 : decode cX4_stir 6 = .ok (.i2l, 1) := by decide +kernel
theorem dX4_stir_7 : decode cX4_stir 7 = .ok (.ladd, 1) := by decide +kernel
theorem dX4_stir_8 : decode cX4_stir 8 = .ok (.lreturn, 1) := by decide +kernel
set_option maxRecDepth 20000 in
theorem ggX4_checkCell_X1_has : GoodIn wsX4_checkCell wsX1_has := goodIn_r _ [8, 9, 10, 11, 7, 12, 13, 14, 17, 18, 19, 20, 21] (by decide +kernel) (by decide +kernel)
set_option maxRecDepth 20000 in
theorem gX4_checkCell_X1_has : GoodIn wsX4_checkCell (wsV RX4 146 RX1 yX1_has wsX1_has) := goodIn_app (goodIn_of _ (by decide +kernel)) ggX4_checkCell_X1_has
theorem dX4_checkCell_0 : decode cX4_checkCell 0 = .ok (.aload_n 0, 1) := by decide +kernel
theorem dX4_checkCell_1 : decode cX4_checkCell 1 = .ok (.getfield 10, 3) := by decide +kernel
theorem dX4_checkCell_4 : decode cX4_checkCell 4 = .ok (.iload_n 1, 1) := by decide +kernel
theorem dX4_checkCell_5 : decode cX4_checkCell 5 = .ok (.invokevirtual 146, 3) := by decide +kernel
theorem dX4_checkCell_8 : decode cX4_checkCell 8 = .ok (.ifCond .ne 13, 3) := by decide +kernel
theorem dX4_checkCell_11 : decode cX4_checkCell 11 = .ok (.new 87, 3) := by decide +kernel
theorem dX4_checkCell_14 : decode cX4_checkCell 14 = .ok (.dup, 1) := by decide +kernel
theorem dX4_checkCell_15 : decode cX4_checkCell 15 = .ok (.ldc 149, 2) := by decide +kernel
theorem dX4_checkCell_17 : decode cX4_checkCell 17 = .ok (.invokespecial 91, 3) := by decide +kernel
theorem dX4_checkCell_20 : decode cX4_checkCell 20 = .ok (.athrow, 1) := by decide +kernel
theorem dX4_checkCell_21 : decode cX4_checkCell 21 = .ok (.return_, 1) := by decide +kernel
set_option maxRecDepth 20000 in
theorem ggX4_checkOpen_X1_isPillar : GoodIn wsX4_checkOpen wsX1_isPillar := goodIn_r _ [8, 9, 10, 11, 12, 15, 16, 17, 18, 19] (by decide +kernel) (by decide +kernel)
set_option maxRecDepth 20000 in
theorem gX4_checkOpen_X1_isPillar : GoodIn wsX4_checkOpen (wsV RX4 50 RX1 yX1_isPillar wsX1_isPillar) := goodIn_app (goodIn_of _ (by decide +kernel)) ggX4_checkOpen_X1_isPillar
theorem dX4_checkOpen_0 : decode cX4_checkOpen 0 = .ok (.aload_n 0, 1) := by decide +kernel
theorem dX4_checkOpen_1 : decode cX4_checkOpen 1 = .ok (.getfield 10, 3) := by decide +kernel
theorem dX4_checkOpen_4 : decode cX4_checkOpen 4 = .ok (.iload_n 1, 1) := by decide +kernel
theorem dX4_checkOpen_5 : decode cX4_checkOpen 5 = .ok (.invokevirtual 50, 3) := by decide +kernel
theorem dX4_checkOpen_8 : decode cX4_checkOpen 8 = .ok (.ifCond .eq 13, 3) := by decide +kernel
theorem dX4_checkOpen_11 : decode cX4_checkOpen 11 = .ok (.new 151, 3) := by decide +kernel
theorem dX4_checkOpen_14 : decode cX4_checkOpen 14 = .ok (.dup, 1) := by decide +kernel
theorem dX4_checkOpen_15 : decode cX4_checkOpen 15 = .ok (.ldc 153, 2) := by decide +kernel
theorem dX4_checkOpen_17 : decode cX4_checkOpen 17 = .ok (.invokespecial 155, 3) := by decide +kernel
theorem dX4_checkOpen_20 : decode cX4_checkOpen 20 = .ok (.athrow, 1) := by decide +kernel
theorem dX4_checkOpen_21 : decode cX4_checkOpen 21 = .ok (.return_, 1) := by decide +kernel
theorem dX4_checkPartition_0 : decode cX4_checkPartition 0 = .ok (.iload_n 0, 1) := by decide +kernel
theorem dX4_checkPartition_1 : decode cX4_checkPartition 1 = .ok (.iconst 1, 1) := by decide +kernel
theorem dX4_checkPartition_2 : decode cX4_checkPartition 2 = .ok (.if_icmp .lt 9, 3) := by decide +kernel
theorem dX4_checkPartition_5 : decode cX4_checkPartition 5 = .ok (.iload_n 0, 1) := by decide +kernel
theorem dX4_checkPartition_6 : decode cX4_checkPartition 6 = .ok (.bipush 9, 2) := by decide +kernel
theorem dX4_checkPartition_8 : decode cX4_checkPartition 8 = .ok (.if_icmp .le 13, 3) := by decide +kernel
theorem dX4_checkPartition_11 : decode cX4_checkPartition 11 = .ok (.new 25, 3) := by decide +kernel
theorem dX4_checkPartition_14 : decode cX4_checkPartition 14 = .ok (.dup, 1) := by decide +kernel
theorem dX4_checkPartition_15 : decode cX4_checkPartition 15 = .ok (.ldc 156, 2) := by decide +kernel
theorem dX4_checkPartition_17 : decode cX4_checkPartition 17 = .ok (.invokespecial 29, 3) := by decide +kernel
theorem dX4_checkPartition_20 : decode cX4_checkPartition 20 = .ok (.athrow, 1) := by decide +kernel
theorem dX4_checkPartition_21 : decode cX4_checkPartition 21 = .ok (.iload_n 1, 1) := by decide +kernel
theorem dX4_checkPartition_22 : decode cX4_checkPartition 22 = .ok (.iconst 1, 1) := by decide +kernel
theorem dX4_checkPartition_23 : decode cX4_checkPartition 23 = .ok (.if_icmp .lt 9, 3) := by decide +kernel
theorem dX4_checkPartition_26 : decode cX4_checkPartition 26 = .ok (.iload_n 1, 1) := by decide +kernel
theorem dX4_checkPartition_27 : decode cX4_checkPartition 27 = .ok (.bipush 45, 2) := by decide +kernel
theorem dX4_checkPartition_29 : decode cX4_checkPartition 29 = .ok (.if_icmp .le 13, 3) := by decide +kernel
theorem dX4_checkPartition_32 : decode cX4_checkPartition 32 = .ok (.new 25, 3) := by decide +kernel
theorem dX4_checkPartition_35 : decode cX4_checkPartition 35 = .ok (.dup, 1) := by decide +kernel
theorem dX4_checkPartition_36 : decode cX4_checkPartition 36 = .ok (.ldc 158, 2) := by decide +kernel
theorem dX4_checkPartition_38 : decode cX4_checkPartition 38 = .ok (.invokespecial 29, 3) := by decide +kernel
theorem dX4_checkPartition_41 : decode cX4_checkPartition 41 = .ok (.athrow, 1) := by decide +kernel
theorem dX4_checkPartition_42 : decode cX4_checkPartition 42 = .ok (.return_, 1) := by decide +kernel
set_option maxRecDepth 20000 in
theorem ggX4_isPartition_J6_bitCount_0f7a4 : GoodIn wsX4_isPartition wsJ6_bitCount_0f7a4 := goodIn_r _ [4, 5, 6, 7] (by decide +kernel) (by decide +kernel)
set_option maxRecDepth 20000 in
theorem gX4_isPartition_J6_bitCount_0f7a4 : GoodIn wsX4_isPartition (va_wsS RX4 160 yJ6_bitCount_0f7a4 wsJ6_bitCount_0f7a4) := goodIn_app (goodIn_of _ (by decide +kernel)) ggX4_isPartition_J6_bitCount_0f7a4
set_option maxRecDepth 20000 in
theorem ggX4_isPartition_X4_totalOf : GoodIn wsX4_isPartition wsX4_totalOf := goodIn_r _ [11, 12, 13, 10, 14] (by decide +kernel) (by decide +kernel)
set_option maxRecDepth 20000 in
theorem gX4_isPartition_X4_totalOf : GoodIn wsX4_isPartition (va_wsS RX4 165 yX4_totalOf wsX4_totalOf) := goodIn_app (goodIn_of _ (by decide +kernel)) ggX4_isPartition_X4_totalOf
theorem dX4_isPartition_0 : decode cX4_isPartition 0 = .ok (.iload_n 0, 1) := by decide +kernel
theorem dX4_isPartition_1 : decode cX4_isPartition 1 = .ok (.invokestatic 160, 3) := by decide +kernel
theorem dX4_isPartition_4 : decode cX4_isPartition 4 = .ok (.iload_n 1, 1) := by decide +kernel
theorem dX4_isPartition_5 : decode cX4_isPartition 5 = .ok (.if_icmp .ne 15, 3) := by decide +kernel
theorem dX4_isPartition_8 : decode cX4_isPartition 8 = .ok (.iload_n 0, 1) := by decide +kernel
theorem dX4_isPartition_9 : decode cX4_isPartition 9 = .ok (.invokestatic 165, 3) := by decide +kernel
theorem dX4_isPartition_12 : decode cX4_isPartition 12 = .ok (.iload_n 2, 1) := by decide +kernel
theorem dX4_isPartition_13 : decode cX4_isPartition 13 = .ok (.if_icmp .ne 7, 3) := by decide +kernel
theorem dX4_isPartition_16 : decode cX4_isPartition 16 = .ok (.iconst 1, 1) := by decide +kernel
theorem dX4_isPartition_17 : decode cX4_isPartition 17 = .ok (.goto 4, 3) := by decide +kernel
theorem dX4_isPartition_20 : decode cX4_isPartition 20 = .ok (.iconst 0, 1) := by decide +kernel
theorem dX4_isPartition_21 : decode cX4_isPartition 21 = .ok (.ireturn, 1) := by decide +kernel
set_option maxRecDepth 20000 in
theorem ggX4_totalOf_X4_hasNumber : GoodIn wsX4_totalOf wsX4_hasNumber := goodIn_r _ [4] (by decide +kernel) (by decide +kernel)
set_option maxRecDepth 20000 in
theorem gX4_totalOf_X4_hasNumber : GoodIn wsX4_totalOf (va_wsS RX4 168 yX4_hasNumber wsX4_hasNumber) := goodIn_app (goodIn_of _ (by decide +kernel)) ggX4_totalOf_X4_hasNumber
theorem dX4_totalOf_0 : decode cX4_totalOf 0 = .ok (.iconst 0, 1) := by decide +kernel
theorem dX4_totalOf_1 : decode cX4_totalOf 1 = .ok (.istore_n 1, 1) := by decide +kernel
theorem dX4_totalOf_2 : decode cX4_totalOf 2 = .ok (.iconst 1, 1) := by decide +kernel
theorem dX4_totalOf_3 : decode cX4_totalOf 3 = .ok (.istore_n 2, 1) := by decide +kernel
theorem dX4_totalOf_4 : decode cX4_totalOf 4 = .ok (.iload_n 2, 1) := by decide +kernel
theorem dX4_totalOf_5 : decode cX4_totalOf 5 = .ok (.bipush 9, 2) := by decide +kernel
theorem dX4_totalOf_7 : decode cX4_totalOf 7 = .ok (.if_icmp .gt 21, 3) := by decide +kernel
theorem dX4_totalOf_10 : decode cX4_totalOf 10 = .ok (.iload_n 0, 1) := by decide +kernel
theorem dX4_totalOf_11 : decode cX4_totalOf 11 = .ok (.iload_n 2, 1) := by decide +kernel
theorem dX4_totalOf_12 : decode cX4_totalOf 12 = .ok (.invokestatic 168, 3) := by decide +kernel
theorem dX4_totalOf_15 : decode cX4_totalOf 15 = .ok (.ifCond .eq 7, 3) := by decide +kernel
theorem dX4_totalOf_18 : decode cX4_totalOf 18 = .ok (.iload_n 1, 1) := by decide +kernel
theorem dX4_totalOf_19 : decode cX4_totalOf 19 = .ok (.iload_n 2, 1) := by decide +kernel
theorem dX4_totalOf_20 : decode cX4_totalOf 20 = .ok (.iadd, 1) := by decide +kernel
theorem dX4_totalOf_21 : decode cX4_totalOf 21 = .ok (.istore_n 1, 1) := by decide +kernel
theorem dX4_totalOf_22 : decode cX4_totalOf 22 = .ok (.iinc 2 1, 3) := by decide +kernel
theorem dX4_totalOf_25 : decode cX4_totalOf 25 = .ok (.goto (-21), 3) := by decide +kernel
theorem dX4_totalOf_28 : decode cX4_totalOf 28 = .ok (.iload_n 1, 1) := by decide +kernel
theorem dX4_totalOf_29 : decode cX4_totalOf 29 = .ok (.ireturn, 1) := by decide +kernel
set_option maxRecDepth 20000 in
theorem ggX4_smallestOf_X4_hasNumber : GoodIn wsX4_smallestOf wsX4_hasNumber := goodIn_r _ [4] (by decide +kernel) (by decide +kernel)
set_option maxRecDepth 20000 in
theorem gX4_smallestOf_X4_hasNumber : GoodIn wsX4_smallestOf (va_wsS RX4 168 yX4_hasNumber wsX4_hasNumber) := goodIn_app (goodIn_of _ (by decide +kernel)) ggX4_smallestOf_X4_hasNumber
theorem dX4_smallestOf_0 : decode cX4_smallestOf 0 = .ok (.iconst 1, 1) := by decide +kernel
theorem dX4_smallestOf_1 : decode cX4_smallestOf 1 = .ok (.istore_n 1, 1) := by decide +kernel
theorem dX4_smallestOf_2 : decode cX4_smallestOf 2 = .ok (.iload_n 1, 1) := by decide +kernel
theorem dX4_smallestOf_3 : decode cX4_smallestOf 3 = .ok (.bipush 9, 2) := by decide +kernel
theorem dX4_smallestOf_5 : decode cX4_smallestOf 5 = .ok (.if_icmp .gt 19, 3) := by decide +kernel
theorem dX4_smallestOf_8 : decode cX4_smallestOf 8 = .ok (.iload_n 0, 1) := by decide +kernel
theorem dX4_smallestOf_9 : decode cX4_smallestOf 9 = .ok (.iload_n 1, 1) := by decide +kernel
theorem dX4_smallestOf_10 : decode cX4_smallestOf 10 = .ok (.invokestatic 168, 3) := by decide +kernel
theorem dX4_smallestOf_13 : decode cX4_smallestOf 13 = .ok (.ifCond .eq 5, 3) := by decide +kernel
theorem dX4_smallestOf_16 : decode cX4_smallestOf 16 = .ok (.iload_n 1, 1) := by decide +kernel
theorem dX4_smallestOf_17 : decode cX4_smallestOf 17 = .ok (.ireturn, 1) := by decide +kernel
theorem dX4_smallestOf_18 : decode cX4_smallestOf 18 = .ok (.iinc 1 1, 3) := by decide +kernel
theorem dX4_smallestOf_21 : decode cX4_smallestOf 21 = .ok (.goto (-19), 3) := by decide +kernel
theorem dX4_smallestOf_24 : decode cX4_smallestOf 24 = .ok (.iconst 0, 1) := by decide +kernel
theorem dX4_smallestOf_25 : decode cX4_smallestOf 25 = .ok (.ireturn, 1) := by decide +kernel
theorem dX4_hasNumber_0 : decode cX4_hasNumber 0 = .ok (.iload_n 0, 1) := by decide +kernel
theorem dX4_hasNumber_1 : decode cX4_hasNumber 1 = .ok (.iconst 1, 1) := by decide +kernel
theorem dX4_hasNumber_2 : decode cX4_hasNumber 2 = .ok (.iload_n 1, 1) := by decide +kernel
theorem dX4_hasNumber_3 : decode cX4_hasNumber 3 = .ok (.ishl, 1) := by decide +kernel
theorem dX4_hasNumber_4 : decode cX4_hasNumber 4 = .ok (.iand, 1) := by decide +kernel
theorem dX4_hasNumber_5 : decode cX4_hasNumber 5 = .ok (.ifCond .eq 7, 3) := by decide +kernel
theorem dX4_hasNumber_8 : decode cX4_hasNumber 8 = .ok (.iconst 1, 1) := by decide +kernel
theorem dX4_hasNumber_9 : decode cX4_hasNumber 9 = .ok (.goto 4, 3) := by decide +kernel
theorem dX4_hasNumber_12 : decode cX4_hasNumber 12 = .ok (.iconst 0, 1) := by decide +kernel
theorem dX4_hasNumber_13 : decode cX4_hasNumber 13 = .ok (.ireturn, 1) := by decide +kernel
theorem dX4_read_0 : decode cX4_read 0 = .ok (.iload_n 1, 1) := by decide +kernel
theorem dX4_read_1 : decode cX4_read 1 = .ok (.ifCond .lt 15, 3) := by decide +kernel
theorem dX4_read_4 : decode cX4_read 4 = .ok (.iload_n 1, 1) := by decide +kernel
theorem dX4_read_5 : decode cX4_read 5 = .ok (.aload_n 0, 1) := by decide +kernel
theorem dX4_read_6 : decode cX4_read 6 = .ok (.arraylength, 1) := by decide +kernel
theorem dX4_read_7 : decode cX4_read 7 = .ok (.if_icmp .ge 9, 3) := by decide +kernel
theorem dX4_read_10 : decode cX4_read 10 = .ok (.aload_n 0, 1) := by decide +kernel
theorem dX4_read_11 : decode cX4_read 11 = .ok (.iload_n 1, 1) := by decide +kernel
theorem dX4_read_12 : decode cX4_read 12 = .ok (.iaload, 1) := by decide +kernel
theorem dX4_read_13 : decode cX4_read 13 = .ok (.goto 4, 3) := by decide +kernel
theorem dX4_read_16 : decode cX4_read 16 = .ok (.iconst 0, 1) := by decide +kernel
theorem dX4_read_17 : decode cX4_read 17 = .ok (.ireturn, 1) := by decide +kernel
theorem dX4_write_0 : decode cX4_write 0 = .ok (.iload_n 1, 1) := by decide +kernel
theorem dX4_write_1 : decode cX4_write 1 = .ok (.ifCond .lt 13, 3) := by decide +kernel
theorem dX4_write_4 : decode cX4_write 4 = .ok (.iload_n 1, 1) := by decide +kernel
theorem dX4_write_5 : decode cX4_write 5 = .ok (.aload_n 0, 1) := by decide +kernel
theorem dX4_write_6 : decode cX4_write 6 = .ok (.arraylength, 1) := by decide +kernel
theorem dX4_write_7 : decode cX4_write 7 = .ok (.if_icmp .ge 7, 3) := by decide +kernel
theorem dX4_write_10 : decode cX4_write 10 = .ok (.aload_n 0, 1) := by decide +kernel
theorem dX4_write_11 : decode cX4_write 11 = .ok (.iload_n 1, 1) := by decide +kernel
theorem dX4_write_12 : decode cX4_write 12 = .ok (.iload_n 2, 1) := by decide +kernel
theorem dX4_write_13 : decode cX4_write 13 = .ok (.iastore, 1) := by decide +kernel
theorem dX4_write_14 : decode cX4_write 14 = .ok (.return_, 1) := by decide +kernel
