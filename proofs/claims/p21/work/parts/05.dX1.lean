theorem dX1_init_0 : decode cX1_init 0 = .ok (.aload_n 0, 1) := by decide +kernel
theorem dX1_init_1 : decode cX1_init 1 = .ok (.invokespecial 3, 3) := by decide +kernel
theorem dX1_init_4 : decode cX1_init 4 = .ok (.bipush 36, 2) := by decide +kernel
theorem dX1_init_6 : decode cX1_init 6 = .ok (.newarray .int, 2) := by decide +kernel
theorem dX1_init_8 : decode cX1_init 8 = .ok (.astore_n 1, 1) := by decide +kernel
theorem dX1_init_9 : decode cX1_init 9 = .ok (.new 9, 3) := by decide +kernel
theorem dX1_init_12 : decode cX1_init 12 = .ok (.dup, 1) := by decide +kernel
theorem dX1_init_13 : decode cX1_init 13 = .ok (.invokespecial 11, 3) := by decide +kernel
theorem dX1_init_16 : decode cX1_init 16 = .ok (.astore_n 2, 1) := by decide +kernel
theorem dX1_init_17 : decode cX1_init 17 = .ok (.aload_n 0, 1) := by decide +kernel
theorem dX1_init_18 : decode cX1_init 18 = .ok (.aload_n 1, 1) := by decide +kernel
theorem dX1_init_19 : decode cX1_init 19 = .ok (.putfield 12, 3) := by decide +kernel
theorem dX1_init_22 : decode cX1_init 22 = .ok (.aload_n 0, 1) := by decide +kernel
theorem dX1_init_23 : decode cX1_init 23 = .ok (.new 18, 3) := by decide +kernel
theorem dX1_init_26 : decode cX1_init 26 = .ok (.dup, 1) := by decide +kernel
theorem dX1_init_27 : decode cX1_init 27 = .ok (.aload_n 1, 1) := by decide +kernel
theorem dX1_init_28 : decode cX1_init 28 = .ok (.aload_n 2, 1) := by decide +kernel
theorem dX1_init_29 : decode cX1_init 29 = .ok (.invokespecial 20, 3) := by decide +kernel
theorem dX1_init_32 : decode cX1_init 32 = .ok (.putfield 23, 3) := by decide +kernel
theorem dX1_init_35 : decode cX1_init 35 = .ok (.aload_n 0, 1) := by decide +kernel
theorem dX1_init_36 : decode cX1_init 36 = .ok (.new 18, 3) := by decide +kernel
theorem dX1_init_39 : decode cX1_init 39 = .ok (.dup, 1) := by decide +kernel
theorem dX1_init_40 : decode cX1_init 40 = .ok (.aload_n 1, 1) := by decide +kernel
theorem dX1_init_41 : decode cX1_init 41 = .ok (.aload_n 2, 1) := by decide +kernel
theorem dX1_init_42 : decode cX1_init 42 = .ok (.invokespecial 20, 3) := by decide +kernel
theorem dX1_init_45 : decode cX1_init 45 = .ok (.putfield 27, 3) := by decide +kernel
theorem dX1_init_48 : decode cX1_init 48 = .ok (.aload_n 0, 1) := by decide +kernel
theorem dX1_init_49 : decode cX1_init 49 = .ok (.iconst 4, 1) := by decide +kernel
theorem dX1_init_50 : decode cX1_init 50 = .ok (.iconst 4, 1) := by decide +kernel
theorem dX1_init_51 : decode cX1_init 51 = .ok (.invokevirtual 30, 3) := by decide +kernel
theorem dX1_init_54 : decode cX1_init 54 = .ok (.return_, 1) := by decide +kernel
set_option maxRecDepth 20000 in
theorem ggX1_clear_X4_write : GoodIn wsX1_clear wsX4_write := goodIn_r _ [8] (by decide +kernel) (by decide +kernel)
set_option maxRecDepth 20000 in
theorem gX1_clear_X4_write_n41 : GoodIn wsX1_clear (wsX4_write) := ggX1_clear_X4_write
set_option maxRecDepth 20000 in
theorem ggX1_clear_X0_clear : GoodIn wsX1_clear wsX0_clear := goodIn_r _ [13, 14, 15, 6, 7, 8, 35, 36, 37, 38, 39, 40, 41, 42, 43] (by decide +kernel) (by decide +kernel)
set_option maxRecDepth 20000 in
theorem gX1_clear_X0_clear : GoodIn wsX1_clear (wsV RX1 45 RX0 yX0_clear wsX0_clear) := goodIn_app (goodIn_of _ (by decide +kernel)) ggX1_clear_X0_clear
set_option maxRecDepth 20000 in
theorem ggX1_clear_X1_joinCells : GoodIn wsX1_clear wsX1_joinCells := goodIn_r _ [20, 2, 1, 4, 5, 21, 22, 23, 12, 24, 25, 26, 27, 6, 7, 8, 28, 29, 30, 31, 32, 33, 34, 35, 36, 37, 38, 39, 40, 41, 42, 43] (by decide +kernel) (by decide +kernel)
set_option maxRecDepth 20000 in
theorem gX1_clear_X1_joinCells : GoodIn wsX1_clear (wsV RX1 48 RX1 yX1_joinCells wsX1_joinCells) := goodIn_app (goodIn_of _ (by decide +kernel)) ggX1_clear_X1_joinCells
theorem dX1_clear_0 : decode cX1_clear 0 = .ok (.aload_n 0, 1) := by decide +kernel
theorem dX1_clear_1 : decode cX1_clear 1 = .ok (.iload_n 1, 1) := by decide +kernel
theorem dX1_clear_2 : decode cX1_clear 2 = .ok (.putfield 34, 3) := by decide +kernel
theorem dX1_clear_5 : decode cX1_clear 5 = .ok (.aload_n 0, 1) := by decide +kernel
theorem dX1_clear_6 : decode cX1_clear 6 = .ok (.iload_n 2, 1) := by decide +kernel
theorem dX1_clear_7 : decode cX1_clear 7 = .ok (.putfield 38, 3) := by decide +kernel
theorem dX1_clear_10 : decode cX1_clear 10 = .ok (.iconst 0, 1) := by decide +kernel
theorem dX1_clear_11 : decode cX1_clear 11 = .ok (.istore_n 3, 1) := by decide +kernel
theorem dX1_clear_12 : decode cX1_clear 12 = .ok (.iload_n 3, 1) := by decide +kernel
theorem dX1_clear_13 : decode cX1_clear 13 = .ok (.bipush 36, 2) := by decide +kernel
theorem dX1_clear_15 : decode cX1_clear 15 = .ok (.if_icmp .ge 18, 3) := by decide +kernel
theorem dX1_clear_18 : decode cX1_clear 18 = .ok (.aload_n 0, 1) := by decide +kernel
theorem dX1_clear_19 : decode cX1_clear 19 = .ok (.getfield 12, 3) := by decide +kernel
theorem dX1_clear_22 : decode cX1_clear 22 = .ok (.iload_n 3, 1) := by decide +kernel
theorem dX1_clear_23 : decode cX1_clear 23 = .ok (.iconst 0, 1) := by decide +kernel
theorem dX1_clear_24 : decode cX1_clear 24 = .ok (.invokestatic 41, 3) := by decide +kernel
theorem dX1_clear_27 : decode cX1_clear 27 = .ok (.iinc 3 1, 3) := by decide +kernel
theorem dX1_clear_30 : decode cX1_clear 30 = .ok (.goto (-18), 3) := by decide +kernel
theorem dX1_clear_33 : decode cX1_clear 33 = .ok (.aload_n 0, 1) := by decide +kernel
theorem dX1_clear_34 : decode cX1_clear 34 = .ok (.getfield 23, 3) := by decide +kernel
theorem dX1_clear_37 : decode cX1_clear 37 = .ok (.iconst 1, 1) := by decide +kernel
theorem dX1_clear_38 : decode cX1_clear 38 = .ok (.invokevirtual 45, 3) := by decide +kernel
theorem dX1_clear_41 : decode cX1_clear 41 = .ok (.aload_n 0, 1) := by decide +kernel
theorem dX1_clear_42 : decode cX1_clear 42 = .ok (.getfield 27, 3) := by decide +kernel
theorem dX1_clear_45 : decode cX1_clear 45 = .ok (.iload_n 1, 1) := by decide +kernel
theorem dX1_clear_46 : decode cX1_clear 46 = .ok (.invokevirtual 45, 3) := by decide +kernel
theorem dX1_clear_49 : decode cX1_clear 49 = .ok (.aload_n 0, 1) := by decide +kernel
theorem dX1_clear_50 : decode cX1_clear 50 = .ok (.invokevirtual 48, 3) := by decide +kernel
theorem dX1_clear_53 : decode cX1_clear 53 = .ok (.return_, 1) := by decide +kernel
set_option maxRecDepth 20000 in
theorem ggX1_joinCells_X0_join : GoodIn wsX1_joinCells wsX0_join := goodIn_r _ [9, 10, 11, 12, 13, 14, 15, 16, 17, 23, 24, 25, 26, 27, 28, 29, 30, 31] (by decide +kernel) (by decide +kernel)
set_option maxRecDepth 20000 in
theorem gX1_joinCells_X0_join : GoodIn wsX1_joinCells (wsV RX1 51 RX0 yX0_join wsX0_join) := goodIn_app (goodIn_of _ (by decide +kernel)) ggX1_joinCells_X0_join
theorem dX1_joinCells_0 : decode cX1_joinCells 0 = .ok (.iconst 0, 1) := by decide +kernel
theorem dX1_joinCells_1 : decode cX1_joinCells 1 = .ok (.istore_n 1, 1) := by decide +kernel
theorem dX1_joinCells_2 : decode cX1_joinCells 2 = .ok (.iload_n 1, 1) := by decide +kernel
theorem dX1_joinCells_3 : decode cX1_joinCells 3 = .ok (.aload_n 0, 1) := by decide +kernel
theorem dX1_joinCells_4 : decode cX1_joinCells 4 = .ok (.getfield 38, 3) := by decide +kernel
theorem dX1_joinCells_7 : decode cX1_joinCells 7 = .ok (.if_icmp .ge 75, 3) := by decide +kernel
theorem dX1_joinCells_10 : decode cX1_joinCells 10 = .ok (.iconst 0, 1) := by decide +kernel
theorem dX1_joinCells_11 : decode cX1_joinCells 11 = .ok (.istore_n 2, 1) := by decide +kernel
theorem dX1_joinCells_12 : decode cX1_joinCells 12 = .ok (.iload_n 2, 1) := by decide +kernel
theorem dX1_joinCells_13 : decode cX1_joinCells 13 = .ok (.aload_n 0, 1) := by decide +kernel
theorem dX1_joinCells_14 : decode cX1_joinCells 14 = .ok (.getfield 34, 3) := by decide +kernel
theorem dX1_joinCells_17 : decode cX1_joinCells 17 = .ok (.if_icmp .ge 59, 3) := by decide +kernel
theorem dX1_joinCells_20 : decode cX1_joinCells 20 = .ok (.iload_n 1, 1) := by decide +kernel
theorem dX1_joinCells_21 : decode cX1_joinCells 21 = .ok (.aload_n 0, 1) := by decide +kernel
theorem dX1_joinCells_22 : decode cX1_joinCells 22 = .ok (.getfield 34, 3) := by decide +kernel
theorem dX1_joinCells_25 : decode cX1_joinCells 25 = .ok (.imul, 1) := by decide +kernel
theorem dX1_joinCells_26 : decode cX1_joinCells 26 = .ok (.iload_n 2, 1) := by decide +kernel
theorem dX1_joinCells_27 : decode cX1_joinCells 27 = .ok (.iadd, 1) := by decide +kernel
theorem dX1_joinCells_28 : decode cX1_joinCells 28 = .ok (.istore_n 3, 1) := by decide +kernel
theorem dX1_joinCells_29 : decode cX1_joinCells 29 = .ok (.aload_n 0, 1) := by decide +kernel
theorem dX1_joinCells_30 : decode cX1_joinCells 30 = .ok (.getfield 23, 3) := by decide +kernel
theorem dX1_joinCells_33 : decode cX1_joinCells 33 = .ok (.iload_n 3, 1) := by decide +kernel
theorem dX1_joinCells_34 : decode cX1_joinCells 34 = .ok (.iload_n 2, 1) := by decide +kernel
theorem dX1_joinCells_35 : decode cX1_joinCells 35 = .ok (.ifCond .ne 7, 3) := by decide +kernel
theorem dX1_joinCells_38 : decode cX1_joinCells 38 = .ok (.iconst (-1), 1) := by decide +kernel
theorem dX1_joinCells_39 : decode cX1_joinCells 39 = .ok (.goto 6, 3) := by decide +kernel
theorem dX1_joinCells_42 : decode cX1_joinCells 42 = .ok (.iload_n 3, 1) := by decide +kernel
theorem dX1_joinCells_43 : decode cX1_joinCells 43 = .ok (.iconst 1, 1) := by decide +kernel
theorem dX1_joinCells_44 : decode cX1_joinCells 44 = .ok (.isub, 1) := by decide +kernel
theorem dX1_joinCells_45 : decode cX1_joinCells 45 = .ok (.invokevirtual 51, 3) := by decide +kernel
theorem dX1_joinCells_48 : decode cX1_joinCells 48 = .ok (.aload_n 0, 1) := by decide +kernel
theorem dX1_joinCells_49 : decode cX1_joinCells 49 = .ok (.getfield 27, 3) := by decide +kernel
theorem dX1_joinCells_52 : decode cX1_joinCells 52 = .ok (.iload_n 3, 1) := by decide +kernel
theorem dX1_joinCells_53 : decode cX1_joinCells 53 = .ok (.iload_n 1, 1) := by decide +kernel
theorem dX1_joinCells_54 : decode cX1_joinCells 54 = .ok (.ifCond .ne 7, 3) := by decide +kernel
theorem dX1_joinCells_57 : decode cX1_joinCells 57 = .ok (.iconst (-1), 1) := by decide +kernel
theorem dX1_joinCells_58 : decode cX1_joinCells 58 = .ok (.goto 9, 3) := by decide +kernel
theorem dX1_joinCells_61 : decode cX1_joinCells 61 = .ok (.iload_n 3, 1) := by decide +kernel
theorem dX1_joinCells_62 : decode cX1_joinCells 62 = .ok (.aload_n 0, 1) := by decide +kernel
theorem dX1_joinCells_63 : decode cX1_joinCells 63 = .ok (.getfield 34, 3) := by decide +kernel
theorem dX1_joinCells_66 : decode cX1_joinCells 66 = .ok (.isub, 1) := by decide +kernel
theorem dX1_joinCells_67 : decode cX1_joinCells 67 = .ok (.invokevirtual 51, 3) := by decide +kernel
theorem dX1_joinCells_70 : decode cX1_joinCells 70 = .ok (.iinc 2 1, 3) := by decide +kernel
theorem dX1_joinCells_73 : decode cX1_joinCells 73 = .ok (.goto (-61), 3) := by decide +kernel
theorem dX1_joinCells_76 : decode cX1_joinCells 76 = .ok (.iinc 1 1, 3) := by decide +kernel
theorem dX1_joinCells_79 : decode cX1_joinCells 79 = .ok (.goto (-77), 3) := by decide +kernel
theorem dX1_joinCells_82 : decode cX1_joinCells 82 = .ok (.return_, 1) := by decide +kernel
theorem dX1_cells_0 : decode cX1_cells 0 = .ok (.aload_n 0, 1) := by decide +kernel
theorem dX1_cells_1 : decode cX1_cells 1 = .ok (.getfield 34, 3) := by decide +kernel
theorem dX1_cells_4 : decode cX1_cells 4 = .ok (.aload_n 0, 1) := by decide +kernel
theorem dX1_cells_5 : decode cX1_cells 5 = .ok (.getfield 38, 3) := by decide +kernel
theorem dX1_cells_8 : decode cX1_cells 8 = .ok (.imul, 1) := by decide +kernel
theorem dX1_cells_9 : decode cX1_cells 9 = .ok (.ireturn, 1) := by decide +kernel
set_option maxRecDepth 20000 in
theorem ggX1_has_X1_cells : GoodIn wsX1_has wsX1_cells := goodIn_r _ [5, 6, 7, 8, 9, 10, 11, 12] (by decide +kernel) (by decide +kernel)
set_option maxRecDepth 20000 in
theorem gX1_has_X1_cells : GoodIn wsX1_has (wsV RX1 54 RX1 yX1_cells wsX1_cells) := goodIn_app (goodIn_of _ (by decide +kernel)) ggX1_has_X1_cells
theorem dX1_has_0 : decode cX1_has 0 = .ok (.iload_n 1, 1) := by decide +kernel
theorem dX1_has_1 : decode cX1_has 1 = .ok (.ifCond .lt 15, 3) := by decide +kernel
theorem dX1_has_4 : decode cX1_has 4 = .ok (.iload_n 1, 1) := by decide +kernel
theorem dX1_has_5 : decode cX1_has 5 = .ok (.aload_n 0, 1) := by decide +kernel
theorem dX1_has_6 : decode cX1_has 6 = .ok (.invokevirtual 54, 3) := by decide +kernel
theorem dX1_has_9 : decode cX1_has 9 = .ok (.if_icmp .ge 7, 3) := by decide +kernel
theorem dX1_has_12 : decode cX1_has 12 = .ok (.iconst 1, 1) := by decide +kernel
theorem dX1_has_13 : decode cX1_has 13 = .ok (.goto 4, 3) := by decide +kernel
theorem dX1_has_16 : decode cX1_has 16 = .ok (.iconst 0, 1) := by decide +kernel
theorem dX1_has_17 : decode cX1_has 17 = .ok (.ireturn, 1) := by decide +kernel
set_option maxRecDepth 20000 in
theorem ggX1_stoneAt_X4_read : GoodIn wsX1_stoneAt wsX4_read := goodIn_r _ [4] (by decide +kernel) (by decide +kernel)
set_option maxRecDepth 20000 in
theorem gX1_stoneAt_X4_read_n58 : GoodIn wsX1_stoneAt (wsX4_read) := ggX1_stoneAt_X4_read
theorem dX1_stoneAt_0 : decode cX1_stoneAt 0 = .ok (.aload_n 0, 1) := by decide +kernel
theorem dX1_stoneAt_1 : decode cX1_stoneAt 1 = .ok (.getfield 12, 3) := by decide +kernel
theorem dX1_stoneAt_4 : decode cX1_stoneAt 4 = .ok (.iload_n 1, 1) := by decide +kernel
theorem dX1_stoneAt_5 : decode cX1_stoneAt 5 = .ok (.invokestatic 58, 3) := by decide +kernel
theorem dX1_stoneAt_8 : decode cX1_stoneAt 8 = .ok (.ireturn, 1) := by decide +kernel
set_option maxRecDepth 20000 in
theorem ggX1_isPillar_X4_read : GoodIn wsX1_isPillar wsX4_read := goodIn_r _ [4] (by decide +kernel) (by decide +kernel)
set_option maxRecDepth 20000 in
theorem gX1_isPillar_X4_read_n58 : GoodIn wsX1_isPillar (wsX4_read) := ggX1_isPillar_X4_read
theorem dX1_isPillar_0 : decode cX1_isPillar 0 = .ok (.aload_n 0, 1) := by decide +kernel
theorem dX1_isPillar_1 : decode cX1_isPillar 1 = .ok (.getfield 12, 3) := by decide +kernel
theorem dX1_isPillar_4 : decode cX1_isPillar 4 = .ok (.iload_n 1, 1) := by decide +kernel
theorem dX1_isPillar_5 : decode cX1_isPillar 5 = .ok (.invokestatic 58, 3) := by decide +kernel
theorem dX1_isPillar_8 : decode cX1_isPillar 8 = .ok (.iconst (-1), 1) := by decide +kernel
theorem dX1_isPillar_9 : decode cX1_isPillar 9 = .ok (.if_icmp .ne 7, 3) := by decide +kernel
theorem dX1_isPillar_12 : decode cX1_isPillar 12 = .ok (.iconst 1, 1) := by decide +kernel
theorem dX1_isPillar_13 : decode cX1_isPillar 13 = .ok (.goto 4, 3) := by decide +kernel
theorem dX1_isPillar_16 : decode cX1_isPillar 16 = .ok (.iconst 0, 1) := by decide +kernel
theorem dX1_isPillar_17 : decode cX1_isPillar 17 = .ok (.ireturn, 1) := by decide +kernel
set_option maxRecDepth 20000 in
theorem ggX1_isHole_X4_read : GoodIn wsX1_isHole wsX4_read := goodIn_r _ [4] (by decide +kernel) (by decide +kernel)
set_option maxRecDepth 20000 in
theorem gX1_isHole_X4_read_n58 : GoodIn wsX1_isHole (wsX4_read) := ggX1_isHole_X4_read
theorem dX1_isHole_0 : decode cX1_isHole 0 = .ok (.aload_n 0, 1) := by decide +kernel
theorem dX1_isHole_1 : decode cX1_isHole 1 = .ok (.getfield 12, 3) := by decide +kernel
theorem dX1_isHole_4 : decode cX1_isHole 4 = .ok (.iload_n 1, 1) := by decide +kernel
theorem dX1_isHole_5 : decode cX1_isHole 5 = .ok (.invokestatic 58, 3) := by decide +kernel
theorem dX1_isHole_8 : decode cX1_isHole 8 = .ok (.ifCond .ne 7, 3) := by decide +kernel
theorem dX1_isHole_11 : decode cX1_isHole 11 = .ok (.iconst 1, 1) := by decide +kernel
theorem dX1_isHole_12 : decode cX1_isHole 12 = .ok (.goto 4, 3) := by decide +kernel
theorem dX1_isHole_15 : decode cX1_isHole 15 = .ok (.iconst 0, 1) := by decide +kernel
theorem dX1_isHole_16 : decode cX1_isHole 16 = .ok (.ireturn, 1) := by decide +kernel
set_option maxRecDepth 20000 in
theorem ggX1_lay_X4_write : GoodIn wsX1_lay wsX4_write := goodIn_r _ [4] (by decide +kernel) (by decide +kernel)
set_option maxRecDepth 20000 in
theorem gX1_lay_X4_write_n41 : GoodIn wsX1_lay (wsX4_write) := ggX1_lay_X4_write
theorem dX1_lay_0 : decode cX1_lay 0 = .ok (.aload_n 0, 1) := by decide +kernel
theorem dX1_lay_1 : decode cX1_lay 1 = .ok (.getfield 12, 3) := by decide +kernel
theorem dX1_lay_4 : decode cX1_lay 4 = .ok (.iload_n 1, 1) := by decide +kernel
theorem dX1_lay_5 : decode cX1_lay 5 = .ok (.iload_n 2, 1) := by decide +kernel
theorem dX1_lay_6 : decode cX1_lay 6 = .ok (.invokestatic 41, 3) := by decide +kernel
theorem dX1_lay_9 : decode cX1_lay 9 = .ok (.return_, 1) := by decide +kernel
set_option maxRecDepth 20000 in
theorem ggX1_turnPillar_X1_isPillar : GoodIn wsX1_turnPillar wsX1_isPillar := goodIn_r _ [6, 1, 7, 8, 9, 28, 29, 30, 31, 32] (by decide +kernel) (by decide +kernel)
set_option maxRecDepth 20000 in
theorem gX1_turnPillar_X1_isPillar : GoodIn wsX1_turnPillar (wsV RX1 62 RX1 yX1_isPillar wsX1_isPillar) := goodIn_app (goodIn_of _ (by decide +kernel)) ggX1_turnPillar_X1_isPillar
set_option maxRecDepth 20000 in
theorem ggX1_turnPillar_X4_write : GoodIn wsX1_turnPillar wsX4_write := goodIn_r _ [11] (by decide +kernel) (by decide +kernel)
set_option maxRecDepth 20000 in
theorem gX1_turnPillar_X4_write_n41 : GoodIn wsX1_turnPillar (wsX4_write) := ggX1_turnPillar_X4_write
set_option maxRecDepth 20000 in
theorem ggX1_turnPillar_X1_joinCells : GoodIn wsX1_turnPillar wsX1_joinCells := goodIn_r _ [15, 16, 17, 18, 19, 20, 21, 22, 23, 24, 25, 26, 27, 10, 8, 11, 7, 9, 28, 29, 30, 31, 32, 33, 34, 35, 36, 37, 38, 39, 40, 41] (by decide +kernel) (by decide +kernel)
set_option maxRecDepth 20000 in
theorem gX1_turnPillar_X1_joinCells : GoodIn wsX1_turnPillar (wsV RX1 48 RX1 yX1_joinCells wsX1_joinCells) := goodIn_app (goodIn_of _ (by decide +kernel)) ggX1_turnPillar_X1_joinCells
theorem dX1_turnPillar_0 : decode cX1_turnPillar 0 = .ok (.aload_n 0, 1) := by decide +kernel
theorem dX1_turnPillar_1 : decode cX1_turnPillar 1 = .ok (.getfield 12, 3) := by decide +kernel
theorem dX1_turnPillar_4 : decode cX1_turnPillar 4 = .ok (.iload_n 1, 1) := by decide +kernel
theorem dX1_turnPillar_5 : decode cX1_turnPillar 5 = .ok (.aload_n 0, 1) := by decide +kernel
theorem dX1_turnPillar_6 : decode cX1_turnPillar 6 = .ok (.iload_n 1, 1) := by decide +kernel
theorem dX1_turnPillar_7 : decode cX1_turnPillar 7 = .ok (.invokevirtual 62, 3) := by decide +kernel
theorem dX1_turnPillar_10 : decode cX1_turnPillar 10 = .ok (.ifCond .eq 7, 3) := by decide +kernel
theorem dX1_turnPillar_13 : decode cX1_turnPillar 13 = .ok (.iconst 0, 1) := by decide +kernel
theorem dX1_turnPillar_14 : decode cX1_turnPillar 14 = .ok (.goto 4, 3) := by decide +kernel
theorem dX1_turnPillar_17 : decode cX1_turnPillar 17 = .ok (.iconst (-1), 1) := by decide +kernel
theorem dX1_turnPillar_18 : decode cX1_turnPillar 18 = .ok (.invokestatic 41, 3) := by decide +kernel
theorem dX1_turnPillar_21 : decode cX1_turnPillar 21 = .ok (.aload_n 0, 1) := by decide +kernel
theorem dX1_turnPillar_22 : decode cX1_turnPillar 22 = .ok (.invokevirtual 48, 3) := by decide +kernel
theorem dX1_turnPillar_25 : decode cX1_turnPillar 25 = .ok (.return_, 1) := by decide +kernel
theorem dX1_corridors_0 : decode cX1_corridors 0 = .ok (.iload_n 1, 1) := by decide +kernel
theorem dX1_corridors_1 : decode cX1_corridors 1 = .ok (.ifCond .eq 10, 3) := by decide +kernel
theorem dX1_corridors_4 : decode cX1_corridors 4 = .ok (.aload_n 0, 1) := by decide +kernel
theorem dX1_corridors_5 : decode cX1_corridors 5 = .ok (.getfield 27, 3) := by decide +kernel
theorem dX1_corridors_8 : decode cX1_corridors 8 = .ok (.goto 7, 3) := by decide +kernel
theorem dX1_corridors_11 : decode cX1_corridors 11 = .ok (.aload_n 0, 1) := by decide +kernel
theorem dX1_corridors_12 : decode cX1_corridors 12 = .ok (.getfield 23, 3) := by decide +kernel
theorem dX1_corridors_15 : decode cX1_corridors 15 = .ok (.areturn, 1) := by decide +kernel
set_option maxRecDepth 20000 in
theorem ggX1_numbersFor_X1_isHole : GoodIn wsX1_numbersFor wsX1_isHole := goodIn_r _ [7, 8, 9, 10, 11, 47, 48, 49, 50, 51] (by decide +kernel) (by decide +kernel)
set_option maxRecDepth 20000 in
theorem gX1_numbersFor_X1_isHole : GoodIn wsX1_numbersFor (wsV RX1 66 RX1 yX1_isHole wsX1_isHole) := goodIn_app (goodIn_of _ (by decide +kernel)) ggX1_numbersFor_X1_isHole
set_option maxRecDepth 20000 in
theorem ggX1_numbersFor_X0_numbersFor : GoodIn wsX1_numbersFor wsX0_numbersFor := goodIn_r _ [16, 17, 18, 19, 20, 21, 22, 23, 9, 10, 11, 24, 25, 26, 15, 27, 28, 29, 30, 31, 32, 33, 34, 35, 36, 37, 38, 39, 40, 41, 42, 43, 44, 45, 46, 52, 53, 54, 55, 56, 57, 58, 59, 60, 61] (by decide +kernel) (by decide +kernel)
set_option maxRecDepth 20000 in
theorem gX1_numbersFor_X0_numbersFor : GoodIn wsX1_numbersFor (wsV RX1 69 RX0 yX0_numbersFor wsX0_numbersFor) := goodIn_app (goodIn_of _ (by decide +kernel)) ggX1_numbersFor_X0_numbersFor
theorem dX1_numbersFor_0 : decode cX1_numbersFor 0 = .ok (.aload_n 0, 1) := by decide +kernel
theorem dX1_numbersFor_1 : decode cX1_numbersFor 1 = .ok (.iload_n 1, 1) := by decide +kernel
theorem dX1_numbersFor_2 : decode cX1_numbersFor 2 = .ok (.invokevirtual 66, 3) := by decide +kernel
theorem dX1_numbersFor_5 : decode cX1_numbersFor 5 = .ok (.ifCond .eq 23, 3) := by decide +kernel
theorem dX1_numbersFor_8 : decode cX1_numbersFor 8 = .ok (.aload_n 0, 1) := by decide +kernel
theorem dX1_numbersFor_9 : decode cX1_numbersFor 9 = .ok (.getfield 23, 3) := by decide +kernel
theorem dX1_numbersFor_12 : decode cX1_numbersFor 12 = .ok (.iload_n 1, 1) := by decide +kernel
theorem dX1_numbersFor_13 : decode cX1_numbersFor 13 = .ok (.invokevirtual 69, 3) := by decide +kernel
theorem dX1_numbersFor_16 : decode cX1_numbersFor 16 = .ok (.aload_n 0, 1) := by decide +kernel
theorem dX1_numbersFor_17 : decode cX1_numbersFor 17 = .ok (.getfield 27, 3) := by decide +kernel
theorem dX1_numbersFor_20 : decode cX1_numbersFor 20 = .ok (.iload_n 1, 1) := by decide +kernel
theorem dX1_numbersFor_21 : decode cX1_numbersFor 21 = .ok (.invokevirtual 69, 3) := by decide +kernel
theorem dX1_numbersFor_24 : decode cX1_numbersFor 24 = .ok (.iand, 1) := by decide +kernel
theorem dX1_numbersFor_25 : decode cX1_numbersFor 25 = .ok (.goto 4, 3) := by decide +kernel
theorem dX1_numbersFor_28 : decode cX1_numbersFor 28 = .ok (.iconst 0, 1) := by decide +kernel
theorem dX1_numbersFor_29 : decode cX1_numbersFor 29 = .ok (.ireturn, 1) := by decide +kernel
set_option maxRecDepth 20000 in
theorem ggX1_isAllWell_X1_wellOf : GoodIn wsX1_isAllWell wsX1_wellOf := goodIn_r _ [7, 8, 9, 10, 6, 11, 12, 13, 14, 15, 16, 17, 18, 19, 20, 21, 22, 23, 24, 25, 26, 27, 28, 29, 30, 31, 32, 33, 34, 35, 36, 37, 38, 39, 40, 41, 42, 43, 44, 45, 46, 47, 48, 49, 50, 51, 52, 53, 54, 55, 60, 61, 62, 63, 64, 65, 66, 67, 68, 69, 70, 71, 72, 73, 74] (by decide +kernel) (by decide +kernel)
set_option maxRecDepth 20000 in
theorem gX1_isAllWell_X1_wellOf : GoodIn wsX1_isAllWell (wsV RX1 73 RX1 yX1_wellOf wsX1_wellOf) := goodIn_app (goodIn_of _ (by decide +kernel)) ggX1_isAllWell_X1_wellOf
set_option maxRecDepth 20000 in
theorem ggX1_isAllWell_X1_corridorsOf : GoodIn wsX1_isAllWell wsX1_corridorsOf := goodIn_r _ [59, 8, 9, 10, 6, 11, 12, 13, 14, 15, 16, 17, 18, 19, 20, 21, 22, 60, 61, 62, 63, 64, 65, 66, 67, 68, 69, 70, 71, 72, 73] (by decide +kernel) (by decide +kernel)
set_option maxRecDepth 20000 in
theorem gX1_isAllWell_X1_corridorsOf : GoodIn wsX1_isAllWell (wsV RX1 77 RX1 yX1_corridorsOf wsX1_corridorsOf) := goodIn_app (goodIn_of _ (by decide +kernel)) ggX1_isAllWell_X1_corridorsOf
theorem dX1_isAllWell_0 : decode cX1_isAllWell 0 = .ok (.aload_n 0, 1) := by decide +kernel
theorem dX1_isAllWell_1 : decode cX1_isAllWell 1 = .ok (.aload_n 0, 1) := by decide +kernel
theorem dX1_isAllWell_2 : decode cX1_isAllWell 2 = .ok (.getfield 23, 3) := by decide +kernel
theorem dX1_isAllWell_5 : decode cX1_isAllWell 5 = .ok (.invokevirtual 73, 3) := by decide +kernel
theorem dX1_isAllWell_8 : decode cX1_isAllWell 8 = .ok (.aload_n 0, 1) := by decide +kernel
theorem dX1_isAllWell_9 : decode cX1_isAllWell 9 = .ok (.aload_n 0, 1) := by decide +kernel
theorem dX1_isAllWell_10 : decode cX1_isAllWell 10 = .ok (.getfield 27, 3) := by decide +kernel
theorem dX1_isAllWell_13 : decode cX1_isAllWell 13 = .ok (.invokevirtual 73, 3) := by decide +kernel
theorem dX1_isAllWell_16 : decode cX1_isAllWell 16 = .ok (.iadd, 1) := by decide +kernel
theorem dX1_isAllWell_17 : decode cX1_isAllWell 17 = .ok (.aload_n 0, 1) := by decide +kernel
theorem dX1_isAllWell_18 : decode cX1_isAllWell 18 = .ok (.aload_n 0, 1) := by decide +kernel
theorem dX1_isAllWell_19 : decode cX1_isAllWell 19 = .ok (.getfield 23, 3) := by decide +kernel
theorem dX1_isAllWell_22 : decode cX1_isAllWell 22 = .ok (.invokevirtual 77, 3) := by decide +kernel
theorem dX1_isAllWell_25 : decode cX1_isAllWell 25 = .ok (.aload_n 0, 1) := by decide +kernel
theorem dX1_isAllWell_26 : decode cX1_isAllWell 26 = .ok (.aload_n 0, 1) := by decide +kernel
theorem dX1_isAllWell_27 : decode cX1_isAllWell 27 = .ok (.getfield 27, 3) := by decide +kernel
theorem dX1_isAllWell_30 : decode cX1_isAllWell 30 = .ok (.invokevirtual 77, 3) := by decide +kernel
theorem dX1_isAllWell_33 : decode cX1_isAllWell 33 = .ok (.iadd, 1) := by decide +kernel
theorem dX1_isAllWell_34 : decode cX1_isAllWell 34 = .ok (.if_icmp .ne 7, 3) := by decide +kernel
theorem dX1_isAllWell_37 : decode cX1_isAllWell 37 = .ok (.iconst 1, 1) := by decide +kernel
theorem dX1_isAllWell_38 : decode cX1_isAllWell 38 = .ok (.goto 4, 3) := by decide +kernel
theorem dX1_isAllWell_41 : decode cX1_isAllWell 41 = .ok (.iconst 0, 1) := by decide +kernel
theorem dX1_isAllWell_42 : decode cX1_isAllWell 42 = .ok (.ireturn, 1) := by decide +kernel
set_option maxRecDepth 20000 in
theorem ggX1_firstSingle_X1_cells : GoodIn wsX1_firstSingle wsX1_cells := goodIn_r _ [5, 6, 7, 58, 59, 60, 61, 62] (by decide +kernel) (by decide +kernel)
set_option maxRecDepth 20000 in
theorem gX1_firstSingle_X1_cells : GoodIn wsX1_firstSingle (wsV RX1 54 RX1 yX1_cells wsX1_cells) := goodIn_app (goodIn_of _ (by decide +kernel)) ggX1_firstSingle_X1_cells
set_option maxRecDepth 20000 in
theorem ggX1_firstSingle_X1_numbersFor : GoodIn wsX1_firstSingle wsX1_numbersFor := goodIn_r _ [11, 12, 13, 14, 15, 16, 4, 17, 18, 19, 20, 21, 22, 23, 24, 25, 26, 27, 28, 29, 30, 31, 32, 33, 34, 35, 36, 37, 38, 39, 40, 41, 42, 43, 44, 45, 46, 47, 48, 49, 50, 51, 52, 53, 54, 55, 56, 58, 59, 60, 61, 62, 63, 64, 65, 66, 67, 68, 69, 70, 71, 72] (by decide +kernel) (by decide +kernel)
set_option maxRecDepth 20000 in
theorem gX1_firstSingle_X1_numbersFor : GoodIn wsX1_firstSingle (wsV RX1 80 RX1 yX1_numbersFor wsX1_numbersFor) := goodIn_app (goodIn_of _ (by decide +kernel)) ggX1_firstSingle_X1_numbersFor
set_option maxRecDepth 20000 in
theorem ggX1_firstSingle_J6_bitCount_0f7a4 : GoodIn wsX1_firstSingle wsJ6_bitCount_0f7a4 := goodIn_r _ [47, 48, 49, 50] (by decide +kernel) (by decide +kernel)
set_option maxRecDepth 20000 in
theorem gX1_firstSingle_J6_bitCount_0f7a4 : GoodIn wsX1_firstSingle (va_wsS RX1 81 yJ6_bitCount_0f7a4 wsJ6_bitCount_0f7a4) := goodIn_app (goodIn_of _ (by decide +kernel)) ggX1_firstSingle_J6_bitCount_0f7a4
theorem dX1_firstSingle_0 : decode cX1_firstSingle 0 = .ok (.iconst 0, 1) := by decide +kernel
theorem dX1_firstSingle_1 : decode cX1_firstSingle 1 = .ok (.istore_n 1, 1) := by decide +kernel
theorem dX1_firstSingle_2 : decode cX1_firstSingle 2 = .ok (.iload_n 1, 1) := by decide +kernel
theorem dX1_firstSingle_3 : decode cX1_firstSingle 3 = .ok (.aload_n 0, 1) := by decide +kernel
theorem dX1_firstSingle_4 : decode cX1_firstSingle 4 = .ok (.invokevirtual 54, 3) := by decide +kernel
theorem dX1_firstSingle_7 : decode cX1_firstSingle 7 = .ok (.if_icmp .ge 23, 3) := by decide +kernel
theorem dX1_firstSingle_10 : decode cX1_firstSingle 10 = .ok (.aload_n 0, 1) := by decide +kernel
theorem dX1_firstSingle_11 : decode cX1_firstSingle 11 = .ok (.iload_n 1, 1) := by decide +kernel
theorem dX1_firstSingle_12 : decode cX1_firstSingle 12 = .ok (.invokevirtual 80, 3) := by decide +kernel
theorem dX1_firstSingle_15 : decode cX1_firstSingle 15 = .ok (.invokestatic 81, 3) := by decide +kernel
theorem dX1_firstSingle_18 : decode cX1_firstSingle 18 = .ok (.iconst 1, 1) := by decide +kernel
theorem dX1_firstSingle_19 : decode cX1_firstSingle 19 = .ok (.if_icmp .ne 5, 3) := by decide +kernel
theorem dX1_firstSingle_22 : decode cX1_firstSingle 22 = .ok (.iload_n 1, 1) := by decide +kernel
theorem dX1_firstSingle_23 : decode cX1_firstSingle 23 = .ok (.ireturn, 1) := by decide +kernel
theorem dX1_firstSingle_24 : decode cX1_firstSingle 24 = .ok (.iinc 1 1, 3) := by decide +kernel
theorem dX1_firstSingle_27 : decode cX1_firstSingle 27 = .ok (.goto (-25), 3) := by decide +kernel
theorem dX1_firstSingle_30 : decode cX1_firstSingle 30 = .ok (.iconst (-1), 1) := by decide +kernel
theorem dX1_firstSingle_31 : decode cX1_firstSingle 31 = .ok (.ireturn, 1) := by decide +kernel
set_option maxRecDepth 20000 in
theorem ggX1_tightest_X1_cells : GoodIn wsX1_tightest wsX1_cells := goodIn_r _ [5, 6, 7, 58, 59, 60, 61, 62] (by decide +kernel) (by decide +kernel)
set_option maxRecDepth 20000 in
theorem gX1_tightest_X1_cells : GoodIn wsX1_tightest (wsV RX1 54 RX1 yX1_cells wsX1_cells) := goodIn_app (goodIn_of _ (by decide +kernel)) ggX1_tightest_X1_cells
set_option maxRecDepth 20000 in
theorem ggX1_tightest_X1_numbersFor : GoodIn wsX1_tightest wsX1_numbersFor := goodIn_r _ [11, 12, 13, 14, 15, 16, 4, 17, 18, 19, 20, 21, 22, 23, 24, 25, 26, 27, 28, 29, 30, 31, 32, 33, 34, 35, 36, 37, 38, 39, 40, 41, 42, 43, 44, 45, 46, 47, 48, 49, 50, 51, 52, 53, 54, 55, 56, 58, 59, 60, 61, 62, 63, 64, 65, 66, 67, 68, 69, 70, 71, 72] (by decide +kernel) (by decide +kernel)
set_option maxRecDepth 20000 in
theorem gX1_tightest_X1_numbersFor : GoodIn wsX1_tightest (wsV RX1 80 RX1 yX1_numbersFor wsX1_numbersFor) := goodIn_app (goodIn_of _ (by decide +kernel)) ggX1_tightest_X1_numbersFor
set_option maxRecDepth 20000 in
theorem ggX1_tightest_J6_bitCount_0f7a4 : GoodIn wsX1_tightest wsJ6_bitCount_0f7a4 := goodIn_r _ [47, 48, 49, 50] (by decide +kernel) (by decide +kernel)
set_option maxRecDepth 20000 in
theorem gX1_tightest_J6_bitCount_0f7a4 : GoodIn wsX1_tightest (va_wsS RX1 81 yJ6_bitCount_0f7a4 wsJ6_bitCount_0f7a4) := goodIn_app (goodIn_of _ (by decide +kernel)) ggX1_tightest_J6_bitCount_0f7a4
set_option maxRecDepth 20000 in
theorem ggX1_tightest_X1_isHole : GoodIn wsX1_tightest wsX1_isHole := goodIn_r _ [17, 18, 19, 20, 21, 58, 59, 60, 61, 62] (by decide +kernel) (by decide +kernel)
set_option maxRecDepth 20000 in
theorem gX1_tightest_X1_isHole : GoodIn wsX1_tightest (wsV RX1 66 RX1 yX1_isHole wsX1_isHole) := goodIn_app (goodIn_of _ (by decide +kernel)) ggX1_tightest_X1_isHole
theorem dX1_tightest_0 : decode cX1_tightest 0 = .ok (.iconst (-1), 1) := by decide +kernel
theorem dX1_tightest_1 : decode cX1_tightest 1 = .ok (.istore_n 1, 1) := by decide +kernel
theorem dX1_tightest_2 : decode cX1_tightest 2 = .ok (.bipush 10, 2) := by decide +kernel
theorem dX1_tightest_4 : decode cX1_tightest 4 = .ok (.istore_n 2, 1) := by decide +kernel
theorem dX1_tightest_5 : decode cX1_tightest 5 = .ok (.iconst 0, 1) := by decide +kernel
theorem dX1_tightest_6 : decode cX1_tightest 6 = .ok (.istore_n 3, 1) := by decide +kernel
theorem dX1_tightest_7 : decode cX1_tightest 7 = .ok (.iload_n 3, 1) := by decide +kernel
theorem dX1_tightest_8 : decode cX1_tightest 8 = .ok (.aload_n 0, 1) := by decide +kernel
theorem dX1_tightest_9 : decode cX1_tightest 9 = .ok (.invokevirtual 54, 3) := by decide +kernel
theorem dX1_tightest_12 : decode cX1_tightest 12 = .ok (.if_icmp .ge 38, 3) := by decide +kernel
theorem dX1_tightest_15 : decode cX1_tightest 15 = .ok (.aload_n 0, 1) := by decide +kernel
theorem dX1_tightest_16 : decode cX1_tightest 16 = .ok (.iload_n 3, 1) := by decide +kernel
theorem dX1_tightest_17 : decode cX1_tightest 17 = .ok (.invokevirtual 80, 3) := by decide +kernel
theorem dX1_tightest_20 : decode cX1_tightest 20 = .ok (.invokestatic 81, 3) := by decide +kernel
theorem dX1_tightest_23 : decode cX1_tightest 23 = .ok (.istore 4, 2) := by decide +kernel
theorem dX1_tightest_25 : decode cX1_tightest 25 = .ok (.aload_n 0, 1) := by decide +kernel
theorem dX1_tightest_26 : decode cX1_tightest 26 = .ok (.iload_n 3, 1) := by decide +kernel
theorem dX1_tightest_27 : decode cX1_tightest 27 = .ok (.invokevirtual 66, 3) := by decide +kernel
theorem dX1_tightest_30 : decode cX1_tightest 30 = .ok (.ifCond .eq 14, 3) := by decide +kernel
theorem dX1_tightest_33 : decode cX1_tightest 33 = .ok (.iload 4, 2) := by decide +kernel
theorem dX1_tightest_35 : decode cX1_tightest 35 = .ok (.iload_n 2, 1) := by decide +kernel
theorem dX1_tightest_36 : decode cX1_tightest 36 = .ok (.if_icmp .ge 8, 3) := by decide +kernel
theorem dX1_tightest_39 : decode cX1_tightest 39 = .ok (.iload_n 3, 1) := by decide +kernel
theorem dX1_tightest_40 : decode cX1_tightest 40 = .ok (.istore_n 1, 1) := by decide +kernel
theorem dX1_tightest_41 : decode cX1_tightest 41 = .ok (.iload 4, 2) := by decide +kernel
theorem dX1_tightest_43 : decode cX1_tightest 43 = .ok (.istore_n 2, 1) := by decide +kernel
theorem dX1_tightest_44 : decode cX1_tightest 44 = .ok (.iinc 3 1, 3) := by decide +kernel
theorem dX1_tightest_47 : decode cX1_tightest 47 = .ok (.goto (-40), 3) := by decide +kernel
theorem dX1_tightest_50 : decode cX1_tightest 50 = .ok (.iload_n 1, 1) := by decide +kernel
theorem dX1_tightest_51 : decode cX1_tightest 51 = .ok (.ireturn, 1) := by decide +kernel
set_option maxRecDepth 20000 in
theorem ggX1_meanOfNumbers_X1_cells : GoodIn wsX1_meanOfNumbers wsX1_cells := goodIn_r _ [5, 6, 7, 58, 59, 60, 61, 62] (by decide +kernel) (by decide +kernel)
set_option maxRecDepth 20000 in
theorem gX1_meanOfNumbers_X1_cells : GoodIn wsX1_meanOfNumbers (wsV RX1 54 RX1 yX1_cells wsX1_cells) := goodIn_app (goodIn_of _ (by decide +kernel)) ggX1_meanOfNumbers_X1_cells
set_option maxRecDepth 20000 in
theorem ggX1_meanOfNumbers_X1_isHole : GoodIn wsX1_meanOfNumbers wsX1_isHole := goodIn_r _ [11, 12, 13, 14, 15, 58, 59, 60, 61, 62] (by decide +kernel) (by decide +kernel)
set_option maxRecDepth 20000 in
theorem gX1_meanOfNumbers_X1_isHole : GoodIn wsX1_meanOfNumbers (wsV RX1 66 RX1 yX1_isHole wsX1_isHole) := goodIn_app (goodIn_of _ (by decide +kernel)) ggX1_meanOfNumbers_X1_isHole
set_option maxRecDepth 20000 in
theorem ggX1_meanOfNumbers_X1_numbersFor : GoodIn wsX1_meanOfNumbers wsX1_numbersFor := goodIn_r _ [19, 20, 21, 8, 9, 10, 4, 11, 12, 13, 14, 15, 22, 23, 24, 25, 26, 27, 28, 29, 30, 31, 32, 33, 34, 35, 36, 37, 38, 39, 40, 41, 42, 43, 44, 45, 46, 47, 48, 49, 50, 51, 52, 53, 54, 55, 56, 58, 59, 60, 61, 62, 63, 64, 65, 66, 67, 68, 69, 70, 71, 72] (by decide +kernel) (by decide +kernel)
set_option maxRecDepth 20000 in
theorem gX1_meanOfNumbers_X1_numbersFor : GoodIn wsX1_meanOfNumbers (wsV RX1 80 RX1 yX1_numbersFor wsX1_numbersFor) := goodIn_app (goodIn_of _ (by decide +kernel)) ggX1_meanOfNumbers_X1_numbersFor
set_option maxRecDepth 20000 in
theorem ggX1_meanOfNumbers_J6_bitCount_0f7a4 : GoodIn wsX1_meanOfNumbers wsJ6_bitCount_0f7a4 := goodIn_r _ [47, 48, 49, 50] (by decide +kernel) (by decide +kernel)
set_option maxRecDepth 20000 in
theorem gX1_meanOfNumbers_J6_bitCount_0f7a4 : GoodIn wsX1_meanOfNumbers (va_wsS RX1 81 yJ6_bitCount_0f7a4 wsJ6_bitCount_0f7a4) := goodIn_app (goodIn_of _ (by decide +kernel)) ggX1_meanOfNumbers_J6_bitCount_0f7a4
theorem dX1_meanOfNumbers_0 : decode cX1_meanOfNumbers 0 = .ok (.iconst 0, 1) := by decide +kernel
theorem dX1_meanOfNumbers_1 : decode cX1_meanOfNumbers 1 = .ok (.istore_n 1, 1) := by decide +kernel
theorem dX1_meanOfNumbers_2 : decode cX1_meanOfNumbers 2 = .ok (.iconst 0, 1) := by decide +kernel
theorem dX1_meanOfNumbers_3 : decode cX1_meanOfNumbers 3 = .ok (.istore_n 2, 1) := by decide +kernel
theorem dX1_meanOfNumbers_4 : decode cX1_meanOfNumbers 4 = .ok (.iconst 0, 1) := by decide +kernel
theorem dX1_meanOfNumbers_5 : decode cX1_meanOfNumbers 5 = .ok (.istore_n 3, 1) := by decide +kernel
theorem dX1_meanOfNumbers_6 : decode cX1_meanOfNumbers 6 = .ok (.iload_n 3, 1) := by decide +kernel
theorem dX1_meanOfNumbers_7 : decode cX1_meanOfNumbers 7 = .ok (.aload_n 0, 1) := by decide +kernel
theorem dX1_meanOfNumbers_8 : decode cX1_meanOfNumbers 8 = .ok (.invokevirtual 54, 3) := by decide +kernel
theorem dX1_meanOfNumbers_11 : decode cX1_meanOfNumbers 11 = .ok (.if_icmp .ge 31, 3) := by decide +kernel
theorem dX1_meanOfNumbers_14 : decode cX1_meanOfNumbers 14 = .ok (.aload_n 0, 1) := by decide +kernel
theorem dX1_meanOfNumbers_15 : decode cX1_meanOfNumbers 15 = .ok (.iload_n 3, 1) := by decide +kernel
theorem dX1_meanOfNumbers_16 : decode cX1_meanOfNumbers 16 = .ok (.invokevirtual 66, 3) := by decide +kernel
theorem dX1_meanOfNumbers_19 : decode cX1_meanOfNumbers 19 = .ok (.ifCond .eq 17, 3) := by decide +kernel
theorem dX1_meanOfNumbers_22 : decode cX1_meanOfNumbers 22 = .ok (.iinc 1 1, 3) := by decide +kernel
theorem dX1_meanOfNumbers_25 : decode cX1_meanOfNumbers 25 = .ok (.iload_n 2, 1) := by decide +kernel
theorem dX1_meanOfNumbers_26 : decode cX1_meanOfNumbers 26 = .ok (.aload_n 0, 1) := by decide +kernel
theorem dX1_meanOfNumbers_27 : decode cX1_meanOfNumbers 27 = .ok (.iload_n 3, 1) := by decide +kernel
theorem dX1_meanOfNumbers_28 : decode cX1_meanOfNumbers 28 = .ok (.invokevirtual 80, 3) := by decide +kernel
theorem dX1_meanOfNumbers_31 : decode cX1_meanOfNumbers 31 = .ok (.invokestatic 81, 3) := by decide +kernel
theorem dX1_meanOfNumbers_34 : decode cX1_meanOfNumbers 34 = .ok (.iadd, 1) := by decide +kernel
theorem dX1_meanOfNumbers_35 : decode cX1_meanOfNumbers 35 = .ok (.istore_n 2, 1) := by decide +kernel
theorem dX1_meanOfNumbers_36 : decode cX1_meanOfNumbers 36 = .ok (.iinc 3 1, 3) := by decide +kernel
theorem dX1_meanOfNumbers_39 : decode cX1_meanOfNumbers 39 = .ok (.goto (-33), 3) := by decide +kernel
theorem dX1_meanOfNumbers_42 : decode cX1_meanOfNumbers 42 = .ok (.iload_n 1, 1) := by decide +kernel
theorem dX1_meanOfNumbers_43 : decode cX1_meanOfNumbers 43 = .ok (.ifCond .ne 7, 3) := by decide +kernel
theorem dX1_meanOfNumbers_46 : decode cX1_meanOfNumbers 46 = .ok (.dconst 0, 1) := by decide +kernel
theorem dX1_meanOfNumbers_47 : decode cX1_meanOfNumbers 47 = .ok (.goto 8, 3) := by decide +kernel
theorem dX1_meanOfNumbers_50 : decode cX1_meanOfNumbers 50 = .ok (.iload_n 2, 1) := by decide +kernel
theorem dX1_meanOfNumbers_51 : decode cX1_meanOfNumbers 51 = .ok (.i2d, 1) := by decide +kernel
theorem dX1_meanOfNumbers_52 : decode cX1_meanOfNumbers 52 = .ok (.iload_n 1, 1) := by decide +kernel
theorem dX1_meanOfNumbers_53 : decode cX1_meanOfNumbers 53 = .ok (.i2d, 1) := by decide +kernel
theorem dX1_meanOfNumbers_54 : decode cX1_meanOfNumbers 54 = .ok (.ddiv, 1) := by decide +kernel
theorem dX1_meanOfNumbers_55 : decode cX1_meanOfNumbers 55 = .ok (.dreturn, 1) := by decide +kernel
set_option maxRecDepth 20000 in
theorem ggX1_tally_X1_cells : GoodIn wsX1_tally wsX1_cells := goodIn_r _ [8, 1, 9, 98, 99, 100, 101, 102] (by decide +kernel) (by decide +kernel)
set_option maxRecDepth 20000 in
theorem gX1_tally_X1_cells : GoodIn wsX1_tally (wsV RX1 54 RX1 yX1_cells wsX1_cells) := goodIn_app (goodIn_of _ (by decide +kernel)) ggX1_tally_X1_cells
set_option maxRecDepth 20000 in
theorem ggX1_tally_X1_openCells : GoodIn wsX1_tally wsX1_openCells := goodIn_r _ [13, 4, 5, 6, 7, 8, 1, 9, 14, 15, 16, 17, 18, 19, 20, 21, 98, 99, 100, 101, 102] (by decide +kernel) (by decide +kernel)
set_option maxRecDepth 20000 in
theorem gX1_tally_X1_openCells : GoodIn wsX1_tally (wsV RX1 86 RX1 yX1_openCells wsX1_openCells) := goodIn_app (goodIn_of _ (by decide +kernel)) ggX1_tally_X1_openCells
set_option maxRecDepth 20000 in
theorem ggX1_tally_X1_stonesLaid : GoodIn wsX1_tally wsX1_stonesLaid := goodIn_r _ [25, 18, 4, 5, 6, 7, 8, 1, 9, 19, 20, 21, 98, 99, 100, 101, 102] (by decide +kernel) (by decide +kernel)
set_option maxRecDepth 20000 in
theorem gX1_tally_X1_stonesLaid : GoodIn wsX1_tally (wsV RX1 89 RX1 yX1_stonesLaid wsX1_stonesLaid) := goodIn_app (goodIn_of _ (by decide +kernel)) ggX1_tally_X1_stonesLaid
set_option maxRecDepth 20000 in
theorem ggX1_tally_X1_corridorsOf : GoodIn wsX1_tally wsX1_corridorsOf := goodIn_r _ [29, 4, 5, 6, 7, 8, 1, 9, 30, 31, 32, 33, 34, 35, 19, 20, 21, 98, 99, 100, 101, 102, 103, 104, 105, 106, 107, 108, 109, 110, 111] (by decide +kernel) (by decide +kernel)
set_option maxRecDepth 20000 in
theorem gX1_tally_X1_corridorsOf : GoodIn wsX1_tally (wsV RX1 77 RX1 yX1_corridorsOf wsX1_corridorsOf) := goodIn_app (goodIn_of _ (by decide +kernel)) ggX1_tally_X1_corridorsOf
set_option maxRecDepth 20000 in
theorem ggX1_tally_X1_summedOf : GoodIn wsX1_tally wsX1_summedOf := goodIn_r _ [39, 4, 5, 6, 7, 8, 1, 9, 30, 31, 32, 33, 34, 35, 19, 20, 21, 40, 41, 42, 43, 44, 98, 99, 100, 101, 102, 103, 104, 105, 106, 107, 108, 109, 110, 111] (by decide +kernel) (by decide +kernel)
set_option maxRecDepth 20000 in
theorem gX1_tally_X1_summedOf : GoodIn wsX1_tally (wsV RX1 92 RX1 yX1_summedOf wsX1_summedOf) := goodIn_app (goodIn_of _ (by decide +kernel)) ggX1_tally_X1_summedOf
set_option maxRecDepth 20000 in
theorem ggX1_tally_X1_wellOf : GoodIn wsX1_tally wsX1_wellOf := goodIn_r _ [48, 4, 5, 6, 7, 8, 1, 9, 30, 31, 32, 33, 34, 35, 19, 20, 21, 49, 50, 51, 52, 44, 53, 54, 55, 56, 57, 58, 59, 60, 61, 62, 63, 64, 65, 66, 67, 68, 69, 70, 71, 72, 73, 74, 75, 76, 77, 78, 79, 80, 98, 99, 100, 101, 102, 103, 104, 105, 106, 107, 108, 109, 110, 111, 112] (by decide +kernel) (by decide +kernel)
set_option maxRecDepth 20000 in
theorem gX1_tally_X1_wellOf : GoodIn wsX1_tally (wsV RX1 73 RX1 yX1_wellOf wsX1_wellOf) := goodIn_app (goodIn_of _ (by decide +kernel)) ggX1_tally_X1_wellOf
set_option maxRecDepth 20000 in
theorem ggX1_tally_X1_holesWithChoices : GoodIn wsX1_tally wsX1_holesWithChoices := goodIn_r _ [84, 4, 5, 6, 7, 8, 1, 9, 85, 86, 87, 88, 18, 19, 20, 21, 89, 90, 91, 92, 2, 3, 93, 94, 95, 33, 96, 35, 56, 44, 53, 54, 57, 55, 58, 59, 60, 61, 62, 63, 64, 65, 66, 67, 68, 69, 70, 71, 72, 73, 74, 75, 76, 77, 78, 79, 80, 97, 98, 99, 100, 101, 102, 103, 104, 105, 106, 107, 108, 109, 110, 111, 112] (by decide +kernel) (by decide +kernel)
set_option maxRecDepth 20000 in
theorem gX1_tally_X1_holesWithChoices : GoodIn wsX1_tally (wsV RX1 95 RX1 yX1_holesWithChoices wsX1_holesWithChoices) := goodIn_app (goodIn_of _ (by decide +kernel)) ggX1_tally_X1_holesWithChoices
theorem dX1_tally_0 : decode cX1_tally 0 = .ok (.iload_n 1, 1) := by decide +kernel
theorem dX1_tally_1 : decode cX1_tally 1 = .ok (.tableswitch 127 0 7 #[47, 52, 57, 62, 67, 85, 103, 121], 47) := by decide +kernel
theorem dX1_tally_48 : decode cX1_tally 48 = .ok (.aload_n 0, 1) := by decide +kernel
theorem dX1_tally_49 : decode cX1_tally 49 = .ok (.invokevirtual 54, 3) := by decide +kernel
theorem dX1_tally_52 : decode cX1_tally 52 = .ok (.ireturn, 1) := by decide +kernel
theorem dX1_tally_53 : decode cX1_tally 53 = .ok (.aload_n 0, 1) := by decide +kernel
theorem dX1_tally_54 : decode cX1_tally 54 = .ok (.getfield 34, 3) := by decide +kernel
theorem dX1_tally_57 : decode cX1_tally 57 = .ok (.ireturn, 1) := by decide +kernel
theorem dX1_tally_58 : decode cX1_tally 58 = .ok (.aload_n 0, 1) := by decide +kernel
theorem dX1_tally_59 : decode cX1_tally 59 = .ok (.invokevirtual 86, 3) := by decide +kernel
theorem dX1_tally_62 : decode cX1_tally 62 = .ok (.ireturn, 1) := by decide +kernel
theorem dX1_tally_63 : decode cX1_tally 63 = .ok (.aload_n 0, 1) := by decide +kernel
theorem dX1_tally_64 : decode cX1_tally 64 = .ok (.invokevirtual 89, 3) := by decide +kernel
theorem dX1_tally_67 : decode cX1_tally 67 = .ok (.ireturn, 1) := by decide +kernel
theorem dX1_tally_68 : decode cX1_tally 68 = .ok (.aload_n 0, 1) := by decide +kernel
theorem dX1_tally_69 : decode cX1_tally 69 = .ok (.aload_n 0, 1) := by decide +kernel
theorem dX1_tally_70 : decode cX1_tally 70 = .ok (.getfield 23, 3) := by decide +kernel
theorem dX1_tally_73 : decode cX1_tally 73 = .ok (.invokevirtual 77, 3) := by decide +kernel
theorem dX1_tally_76 : decode cX1_tally 76 = .ok (.aload_n 0, 1) := by decide +kernel
theorem dX1_tally_77 : decode cX1_tally 77 = .ok (.aload_n 0, 1) := by decide +kernel
theorem dX1_tally_78 : decode cX1_tally 78 = .ok (.getfield 27, 3) := by decide +kernel
theorem dX1_tally_81 : decode cX1_tally 81 = .ok (.invokevirtual 77, 3) := by decide +kernel
theorem dX1_tally_84 : decode cX1_tally 84 = .ok (.iadd, 1) := by decide +kernel
theorem dX1_tally_85 : decode cX1_tally 85 = .ok (.ireturn, 1) := by decide +kernel
theorem dX1_tally_86 : decode cX1_tally 86 = .ok (.aload_n 0, 1) := by decide +kernel
theorem dX1_tally_87 : decode cX1_tally 87 = .ok (.aload_n 0, 1) := by decide +kernel
theorem dX1_tally_88 : decode cX1_tally 88 = .ok (.getfield 23, 3) := by decide +kernel
theorem dX1_tally_91 : decode cX1_tally 91 = .ok (.invokevirtual 92, 3) := by decide +kernel
theorem dX1_tally_94 : decode cX1_tally 94 = .ok (.aload_n 0, 1) := by decide +kernel
theorem dX1_tally_95 : decode cX1_tally 95 = .ok (.aload_n 0, 1) := by decide +kernel
theorem dX1_tally_96 : decode cX1_tally 96 = .ok (.getfield 27, 3) := by decide +kernel
theorem dX1_tally_99 : decode cX1_tally 99 = .ok (.invokevirtual 92, 3) := by decide +kernel
theorem dX1_tally_102 : decode cX1_tally 102 = .ok (.iadd, 1) := by decide +kernel
theorem dX1_tally_103 : decode cX1_tally 103 = .ok (.ireturn, 1) := by decide +kernel
theorem dX1_tally_104 : decode cX1_tally 104 = .ok (.aload_n 0, 1) := by decide +kernel
theorem dX1_tally_105 : decode cX1_tally 105 = .ok (.aload_n 0, 1) := by decide +kernel
theorem dX1_tally_106 : decode cX1_tally 106 = .ok (.getfield 23, 3) := by decide +kernel
theorem dX1_tally_109 : decode cX1_tally 109 = .ok (.invokevirtual 73, 3) := by decide +kernel
theorem dX1_tally_112 : decode cX1_tally 112 = .ok (.aload_n 0, 1) := by decide +kernel
theorem dX1_tally_113 : decode cX1_tally 113 = .ok (.aload_n 0, 1) := by decide +kernel
theorem dX1_tally_114 : decode cX1_tally 114 = .ok (.getfield 27, 3) := by decide +kernel
theorem dX1_tally_117 : decode cX1_tally 117 = .ok (.invokevirtual 73, 3) := by decide +kernel
theorem dX1_tally_120 : decode cX1_tally 120 = .ok (.iadd, 1) := by decide +kernel
theorem dX1_tally_121 : decode cX1_tally 121 = .ok (.ireturn, 1) := by decide +kernel
theorem dX1_tally_122 : decode cX1_tally 122 = .ok (.aload_n 0, 1) := by decide +kernel
theorem dX1_tally_123 : decode cX1_tally 123 = .ok (.iconst 1, 1) := by decide +kernel
theorem dX1_tally_124 : decode cX1_tally 124 = .ok (.invokevirtual 95, 3) := by decide +kernel
theorem dX1_tally_127 : decode cX1_tally 127 = .ok (.ireturn, 1) := by decide +kernel
theorem dX1_tally_128 : decode cX1_tally 128 = .ok (.aload_n 0, 1) := by decide +kernel
theorem dX1_tally_129 : decode cX1_tally 129 = .ok (.iconst 0, 1) := by decide +kernel
theorem dX1_tally_130 : decode cX1_tally 130 = .ok (.invokevirtual 95, 3) := by decide +kernel
theorem dX1_tally_133 : decode cX1_tally 133 = .ok (.ireturn, 1) := by decide +kernel
set_option maxRecDepth 20000 in
theorem ggX1_openCells_X1_cells : GoodIn wsX1_openCells wsX1_cells := goodIn_r _ [5, 6, 7, 16, 17, 18, 19, 20] (by decide +kernel) (by decide +kernel)
set_option maxRecDepth 20000 in
theorem gX1_openCells_X1_cells : GoodIn wsX1_openCells (wsV RX1 54 RX1 yX1_cells wsX1_cells) := goodIn_app (goodIn_of _ (by decide +kernel)) ggX1_openCells_X1_cells
set_option maxRecDepth 20000 in
theorem ggX1_openCells_X1_isPillar : GoodIn wsX1_openCells wsX1_isPillar := goodIn_r _ [11, 12, 13, 14, 15, 16, 17, 18, 19, 20] (by decide +kernel) (by decide +kernel)
set_option maxRecDepth 20000 in
theorem gX1_openCells_X1_isPillar : GoodIn wsX1_openCells (wsV RX1 62 RX1 yX1_isPillar wsX1_isPillar) := goodIn_app (goodIn_of _ (by decide +kernel)) ggX1_openCells_X1_isPillar
theorem dX1_openCells_0 : decode cX1_openCells 0 = .ok (.iconst 0, 1) := by decide +kernel
theorem dX1_openCells_1 : decode cX1_openCells 1 = .ok (.istore_n 1, 1) := by decide +kernel
theorem dX1_openCells_2 : decode cX1_openCells 2 = .ok (.iconst 0, 1) := by decide +kernel
theorem dX1_openCells_3 : decode cX1_openCells 3 = .ok (.istore_n 2, 1) := by decide +kernel
theorem dX1_openCells_4 : decode cX1_openCells 4 = .ok (.iload_n 2, 1) := by decide +kernel
theorem dX1_openCells_5 : decode cX1_openCells 5 = .ok (.aload_n 0, 1) := by decide +kernel
theorem dX1_openCells_6 : decode cX1_openCells 6 = .ok (.invokevirtual 54, 3) := by decide +kernel
theorem dX1_openCells_9 : decode cX1_openCells 9 = .ok (.if_icmp .ge 20, 3) := by decide +kernel
theorem dX1_openCells_12 : decode cX1_openCells 12 = .ok (.aload_n 0, 1) := by decide +kernel
theorem dX1_openCells_13 : decode cX1_openCells 13 = .ok (.iload_n 2, 1) := by decide +kernel
theorem dX1_openCells_14 : decode cX1_openCells 14 = .ok (.invokevirtual 62, 3) := by decide +kernel
theorem dX1_openCells_17 : decode cX1_openCells 17 = .ok (.ifCond .ne 6, 3) := by decide +kernel
theorem dX1_openCells_20 : decode cX1_openCells 20 = .ok (.iinc 1 1, 3) := by decide +kernel
theorem dX1_openCells_23 : decode cX1_openCells 23 = .ok (.iinc 2 1, 3) := by decide +kernel
theorem dX1_openCells_26 : decode cX1_openCells 26 = .ok (.goto (-22), 3) := by decide +kernel
theorem dX1_openCells_29 : decode cX1_openCells 29 = .ok (.iload_n 1, 1) := by decide +kernel
theorem dX1_openCells_30 : decode cX1_openCells 30 = .ok (.ireturn, 1) := by decide +kernel
set_option maxRecDepth 20000 in
theorem ggX1_stonesLaid_X1_cells : GoodIn wsX1_stonesLaid wsX1_cells := goodIn_r _ [6, 7, 8, 12, 13, 14, 15, 16] (by decide +kernel) (by decide +kernel)
set_option maxRecDepth 20000 in
theorem gX1_stonesLaid_X1_cells : GoodIn wsX1_stonesLaid (wsV RX1 54 RX1 yX1_cells wsX1_cells) := goodIn_app (goodIn_of _ (by decide +kernel)) ggX1_stonesLaid_X1_cells
set_option maxRecDepth 20000 in
theorem ggX1_stonesLaid_X4_read : GoodIn wsX1_stonesLaid wsX4_read := goodIn_r _ [11] (by decide +kernel) (by decide +kernel)
set_option maxRecDepth 20000 in
theorem gX1_stonesLaid_X4_read_n58 : GoodIn wsX1_stonesLaid (wsX4_read) := ggX1_stonesLaid_X4_read
theorem dX1_stonesLaid_0 : decode cX1_stonesLaid 0 = .ok (.iconst 0, 1) := by decide +kernel
theorem dX1_stonesLaid_1 : decode cX1_stonesLaid 1 = .ok (.istore_n 1, 1) := by decide +kernel
theorem dX1_stonesLaid_2 : decode cX1_stonesLaid 2 = .ok (.iconst 0, 1) := by decide +kernel
theorem dX1_stonesLaid_3 : decode cX1_stonesLaid 3 = .ok (.istore_n 2, 1) := by decide +kernel
theorem dX1_stonesLaid_4 : decode cX1_stonesLaid 4 = .ok (.iload_n 2, 1) := by decide +kernel
theorem dX1_stonesLaid_5 : decode cX1_stonesLaid 5 = .ok (.aload_n 0, 1) := by decide +kernel
theorem dX1_stonesLaid_6 : decode cX1_stonesLaid 6 = .ok (.invokevirtual 54, 3) := by decide +kernel
theorem dX1_stonesLaid_9 : decode cX1_stonesLaid 9 = .ok (.if_icmp .ge 23, 3) := by decide +kernel
theorem dX1_stonesLaid_12 : decode cX1_stonesLaid 12 = .ok (.aload_n 0, 1) := by decide +kernel
theorem dX1_stonesLaid_13 : decode cX1_stonesLaid 13 = .ok (.getfield 12, 3) := by decide +kernel
theorem dX1_stonesLaid_16 : decode cX1_stonesLaid 16 = .ok (.iload_n 2, 1) := by decide +kernel
theorem dX1_stonesLaid_17 : decode cX1_stonesLaid 17 = .ok (.invokestatic 58, 3) := by decide +kernel
theorem dX1_stonesLaid_20 : decode cX1_stonesLaid 20 = .ok (.ifCond .le 6, 3) := by decide +kernel
theorem dX1_stonesLaid_23 : decode cX1_stonesLaid 23 = .ok (.iinc 1 1, 3) := by decide +kernel
theorem dX1_stonesLaid_26 : decode cX1_stonesLaid 26 = .ok (.iinc 2 1, 3) := by decide +kernel
theorem dX1_stonesLaid_29 : decode cX1_stonesLaid 29 = .ok (.goto (-25), 3) := by decide +kernel
theorem dX1_stonesLaid_32 : decode cX1_stonesLaid 32 = .ok (.iload_n 1, 1) := by decide +kernel
theorem dX1_stonesLaid_33 : decode cX1_stonesLaid 33 = .ok (.ireturn, 1) := by decide +kernel
set_option maxRecDepth 20000 in
theorem ggX1_corridorsOf_X1_cells : GoodIn wsX1_corridorsOf wsX1_cells := goodIn_r _ [5, 6, 7, 17, 18, 19, 20, 21] (by decide +kernel) (by decide +kernel)
set_option maxRecDepth 20000 in
theorem gX1_corridorsOf_X1_cells : GoodIn wsX1_corridorsOf (wsV RX1 54 RX1 yX1_cells wsX1_cells) := goodIn_app (goodIn_of _ (by decide +kernel)) ggX1_corridorsOf_X1_cells
set_option maxRecDepth 20000 in
theorem ggX1_corridorsOf_X0_beginsAt : GoodIn wsX1_corridorsOf wsX0_beginsAt := goodIn_r _ [12, 13, 14, 15, 16, 22, 23, 24, 25, 26, 27, 28, 29, 30] (by decide +kernel) (by decide +kernel)
set_option maxRecDepth 20000 in
theorem gX1_corridorsOf_X0_beginsAt : GoodIn wsX1_corridorsOf (wsV RX1 98 RX0 yX0_beginsAt wsX0_beginsAt) := goodIn_app (goodIn_of _ (by decide +kernel)) ggX1_corridorsOf_X0_beginsAt
theorem dX1_corridorsOf_0 : decode cX1_corridorsOf 0 = .ok (.iconst 0, 1) := by decide +kernel
theorem dX1_corridorsOf_1 : decode cX1_corridorsOf 1 = .ok (.istore_n 2, 1) := by decide +kernel
theorem dX1_corridorsOf_2 : decode cX1_corridorsOf 2 = .ok (.iconst 0, 1) := by decide +kernel
theorem dX1_corridorsOf_3 : decode cX1_corridorsOf 3 = .ok (.istore_n 3, 1) := by decide +kernel
theorem dX1_corridorsOf_4 : decode cX1_corridorsOf 4 = .ok (.iload_n 3, 1) := by decide +kernel
theorem dX1_corridorsOf_5 : decode cX1_corridorsOf 5 = .ok (.aload_n 0, 1) := by decide +kernel
theorem dX1_corridorsOf_6 : decode cX1_corridorsOf 6 = .ok (.invokevirtual 54, 3) := by decide +kernel
theorem dX1_corridorsOf_9 : decode cX1_corridorsOf 9 = .ok (.if_icmp .ge 20, 3) := by decide +kernel
theorem dX1_corridorsOf_12 : decode cX1_corridorsOf 12 = .ok (.aload_n 1, 1) := by decide +kernel
theorem dX1_corridorsOf_13 : decode cX1_corridorsOf 13 = .ok (.iload_n 3, 1) := by decide +kernel
theorem dX1_corridorsOf_14 : decode cX1_corridorsOf 14 = .ok (.invokevirtual 98, 3) := by decide +kernel
theorem dX1_corridorsOf_17 : decode cX1_corridorsOf 17 = .ok (.ifCond .eq 6, 3) := by decide +kernel
theorem dX1_corridorsOf_20 : decode cX1_corridorsOf 20 = .ok (.iinc 2 1, 3) := by decide +kernel
theorem dX1_corridorsOf_23 : decode cX1_corridorsOf 23 = .ok (.iinc 3 1, 3) := by decide +kernel
theorem dX1_corridorsOf_26 : decode cX1_corridorsOf 26 = .ok (.goto (-22), 3) := by decide +kernel
theorem dX1_corridorsOf_29 : decode cX1_corridorsOf 29 = .ok (.iload_n 2, 1) := by decide +kernel
theorem dX1_corridorsOf_30 : decode cX1_corridorsOf 30 = .ok (.ireturn, 1) := by decide +kernel
set_option maxRecDepth 20000 in
theorem ggX1_summedOf_X1_cells : GoodIn wsX1_summedOf wsX1_cells := goodIn_r _ [5, 6, 7, 22, 23, 24, 25, 26] (by decide +kernel) (by decide +kernel)
set_option maxRecDepth 20000 in
theorem gX1_summedOf_X1_cells : GoodIn wsX1_summedOf (wsV RX1 54 RX1 yX1_cells wsX1_cells) := goodIn_app (goodIn_of _ (by decide +kernel)) ggX1_summedOf_X1_cells
set_option maxRecDepth 20000 in
theorem ggX1_summedOf_X0_beginsAt : GoodIn wsX1_summedOf wsX0_beginsAt := goodIn_r _ [12, 13, 14, 15, 16, 27, 28, 29, 30, 31, 32, 33, 34, 35] (by decide +kernel) (by decide +kernel)
set_option maxRecDepth 20000 in
theorem gX1_summedOf_X0_beginsAt : GoodIn wsX1_summedOf (wsV RX1 98 RX0 yX0_beginsAt wsX0_beginsAt) := goodIn_app (goodIn_of _ (by decide +kernel)) ggX1_summedOf_X0_beginsAt
set_option maxRecDepth 20000 in
theorem ggX1_summedOf_X0_toldAt : GoodIn wsX1_summedOf wsX0_toldAt := goodIn_r _ [20, 21, 14, 15, 16, 27, 28, 29, 30, 31, 32, 33, 34, 35] (by decide +kernel) (by decide +kernel)
set_option maxRecDepth 20000 in
theorem gX1_summedOf_X0_toldAt : GoodIn wsX1_summedOf (wsV RX1 101 RX0 yX0_toldAt wsX0_toldAt) := goodIn_app (goodIn_of _ (by decide +kernel)) ggX1_summedOf_X0_toldAt
theorem dX1_summedOf_0 : decode cX1_summedOf 0 = .ok (.iconst 0, 1) := by decide +kernel
theorem dX1_summedOf_1 : decode cX1_summedOf 1 = .ok (.istore_n 2, 1) := by decide +kernel
theorem dX1_summedOf_2 : decode cX1_summedOf 2 = .ok (.iconst 0, 1) := by decide +kernel
theorem dX1_summedOf_3 : decode cX1_summedOf 3 = .ok (.istore_n 3, 1) := by decide +kernel
theorem dX1_summedOf_4 : decode cX1_summedOf 4 = .ok (.iload_n 3, 1) := by decide +kernel
theorem dX1_summedOf_5 : decode cX1_summedOf 5 = .ok (.aload_n 0, 1) := by decide +kernel
theorem dX1_summedOf_6 : decode cX1_summedOf 6 = .ok (.invokevirtual 54, 3) := by decide +kernel
theorem dX1_summedOf_9 : decode cX1_summedOf 9 = .ok (.if_icmp .ge 28, 3) := by decide +kernel
theorem dX1_summedOf_12 : decode cX1_summedOf 12 = .ok (.aload_n 1, 1) := by decide +kernel
theorem dX1_summedOf_13 : decode cX1_summedOf 13 = .ok (.iload_n 3, 1) := by decide +kernel
theorem dX1_summedOf_14 : decode cX1_summedOf 14 = .ok (.invokevirtual 98, 3) := by decide +kernel
theorem dX1_summedOf_17 : decode cX1_summedOf 17 = .ok (.ifCond .eq 14, 3) := by decide +kernel
theorem dX1_summedOf_20 : decode cX1_summedOf 20 = .ok (.aload_n 1, 1) := by decide +kernel
theorem dX1_summedOf_21 : decode cX1_summedOf 21 = .ok (.iload_n 3, 1) := by decide +kernel
theorem dX1_summedOf_22 : decode cX1_summedOf 22 = .ok (.invokevirtual 101, 3) := by decide +kernel
theorem dX1_summedOf_25 : decode cX1_summedOf 25 = .ok (.ifCond .le 6, 3) := by decide +kernel
theorem dX1_summedOf_28 : decode cX1_summedOf 28 = .ok (.iinc 2 1, 3) := by decide +kernel
theorem dX1_summedOf_31 : decode cX1_summedOf 31 = .ok (.iinc 3 1, 3) := by decide +kernel
theorem dX1_summedOf_34 : decode cX1_summedOf 34 = .ok (.goto (-30), 3) := by decide +kernel
theorem dX1_summedOf_37 : decode cX1_summedOf 37 = .ok (.iload_n 2, 1) := by decide +kernel
theorem dX1_summedOf_38 : decode cX1_summedOf 38 = .ok (.ireturn, 1) := by decide +kernel
set_option maxRecDepth 20000 in
theorem ggX1_wellOf_X1_cells : GoodIn wsX1_wellOf wsX1_cells := goodIn_r _ [5, 6, 7, 50, 51, 52, 53, 54] (by decide +kernel) (by decide +kernel)
set_option maxRecDepth 20000 in
theorem gX1_wellOf_X1_cells : GoodIn wsX1_wellOf (wsV RX1 54 RX1 yX1_cells wsX1_cells) := goodIn_app (goodIn_of _ (by decide +kernel)) ggX1_wellOf_X1_cells
set_option maxRecDepth 20000 in
theorem ggX1_wellOf_X0_beginsAt : GoodIn wsX1_wellOf wsX0_beginsAt := goodIn_r _ [12, 13, 14, 15, 16, 55, 56, 57, 58, 59, 60, 61, 62, 63] (by decide +kernel) (by decide +kernel)
set_option maxRecDepth 20000 in
theorem gX1_wellOf_X0_beginsAt : GoodIn wsX1_wellOf (wsV RX1 98 RX0 yX0_beginsAt wsX0_beginsAt) := goodIn_app (goodIn_of _ (by decide +kernel)) ggX1_wellOf_X0_beginsAt
set_option maxRecDepth 20000 in
theorem ggX1_wellOf_X0_isWellFrom : GoodIn wsX1_wellOf wsX0_isWellFrom := goodIn_r _ [20, 21, 22, 23, 24, 25, 26, 27, 28, 29, 11, 30, 31, 32, 14, 15, 16, 33, 34, 35, 36, 37, 38, 39, 40, 41, 42, 43, 44, 45, 46, 47, 48, 49, 55, 56, 57, 58, 59, 60, 61, 62, 63, 64] (by decide +kernel) (by decide +kernel)
set_option maxRecDepth 20000 in
theorem gX1_wellOf_X0_isWellFrom : GoodIn wsX1_wellOf (wsV RX1 104 RX0 yX0_isWellFrom wsX0_isWellFrom) := goodIn_app (goodIn_of _ (by decide +kernel)) ggX1_wellOf_X0_isWellFrom
theorem dX1_wellOf_0 : decode cX1_wellOf 0 = .ok (.iconst 0, 1) := by decide +kernel
theorem dX1_wellOf_1 : decode cX1_wellOf 1 = .ok (.istore_n 2, 1) := by decide +kernel
theorem dX1_wellOf_2 : decode cX1_wellOf 2 = .ok (.iconst 0, 1) := by decide +kernel
theorem dX1_wellOf_3 : decode cX1_wellOf 3 = .ok (.istore_n 3, 1) := by decide +kernel
theorem dX1_wellOf_4 : decode cX1_wellOf 4 = .ok (.iload_n 3, 1) := by decide +kernel
theorem dX1_wellOf_5 : decode cX1_wellOf 5 = .ok (.aload_n 0, 1) := by decide +kernel
theorem dX1_wellOf_6 : decode cX1_wellOf 6 = .ok (.invokevirtual 54, 3) := by decide +kernel
theorem dX1_wellOf_9 : decode cX1_wellOf 9 = .ok (.if_icmp .ge 28, 3) := by decide +kernel
theorem dX1_wellOf_12 : decode cX1_wellOf 12 = .ok (.aload_n 1, 1) := by decide +kernel
theorem dX1_wellOf_13 : decode cX1_wellOf 13 = .ok (.iload_n 3, 1) := by decide +kernel
theorem dX1_wellOf_14 : decode cX1_wellOf 14 = .ok (.invokevirtual 98, 3) := by decide +kernel
theorem dX1_wellOf_17 : decode cX1_wellOf 17 = .ok (.ifCond .eq 14, 3) := by decide +kernel
theorem dX1_wellOf_20 : decode cX1_wellOf 20 = .ok (.aload_n 1, 1) := by decide +kernel
theorem dX1_wellOf_21 : decode cX1_wellOf 21 = .ok (.iload_n 3, 1) := by decide +kernel
theorem dX1_wellOf_22 : decode cX1_wellOf 22 = .ok (.invokevirtual 104, 3) := by decide +kernel
theorem dX1_wellOf_25 : decode cX1_wellOf 25 = .ok (.ifCond .eq 6, 3) := by decide +kernel
theorem dX1_wellOf_28 : decode cX1_wellOf 28 = .ok (.iinc 2 1, 3) := by decide +kernel
theorem dX1_wellOf_31 : decode cX1_wellOf 31 = .ok (.iinc 3 1, 3) := by decide +kernel
theorem dX1_wellOf_34 : decode cX1_wellOf 34 = .ok (.goto (-30), 3) := by decide +kernel
theorem dX1_wellOf_37 : decode cX1_wellOf 37 = .ok (.iload_n 2, 1) := by decide +kernel
theorem dX1_wellOf_38 : decode cX1_wellOf 38 = .ok (.ireturn, 1) := by decide +kernel
set_option maxRecDepth 20000 in
theorem ggX1_holesWithChoices_X1_cells : GoodIn wsX1_holesWithChoices wsX1_cells := goodIn_r _ [5, 6, 7, 58, 59, 60, 61, 62] (by decide +kernel) (by decide +kernel)
set_option maxRecDepth 20000 in
theorem gX1_holesWithChoices_X1_cells : GoodIn wsX1_holesWithChoices (wsV RX1 54 RX1 yX1_cells wsX1_cells) := goodIn_app (goodIn_of _ (by decide +kernel)) ggX1_holesWithChoices_X1_cells
set_option maxRecDepth 20000 in
theorem ggX1_holesWithChoices_X1_isHole : GoodIn wsX1_holesWithChoices wsX1_isHole := goodIn_r _ [11, 12, 13, 14, 15, 58, 59, 60, 61, 62] (by decide +kernel) (by decide +kernel)
set_option maxRecDepth 20000 in
theorem gX1_holesWithChoices_X1_isHole : GoodIn wsX1_holesWithChoices (wsV RX1 66 RX1 yX1_isHole wsX1_isHole) := goodIn_app (goodIn_of _ (by decide +kernel)) ggX1_holesWithChoices_X1_isHole
set_option maxRecDepth 20000 in
theorem ggX1_holesWithChoices_X1_numbersFor : GoodIn wsX1_holesWithChoices wsX1_numbersFor := goodIn_r _ [19, 20, 21, 8, 9, 10, 4, 11, 12, 13, 14, 15, 22, 23, 24, 25, 26, 27, 28, 29, 30, 31, 32, 33, 34, 35, 36, 37, 38, 39, 40, 41, 42, 43, 44, 45, 46, 47, 48, 49, 50, 51, 52, 53, 54, 55, 56, 58, 59, 60, 61, 62, 63, 64, 65, 66, 67, 68, 69, 70, 71, 72] (by decide +kernel) (by decide +kernel)
set_option maxRecDepth 20000 in
theorem gX1_holesWithChoices_X1_numbersFor : GoodIn wsX1_holesWithChoices (wsV RX1 80 RX1 yX1_numbersFor wsX1_numbersFor) := goodIn_app (goodIn_of _ (by decide +kernel)) ggX1_holesWithChoices_X1_numbersFor
set_option maxRecDepth 20000 in
theorem ggX1_holesWithChoices_J6_bitCount_0f7a4 : GoodIn wsX1_holesWithChoices wsJ6_bitCount_0f7a4 := goodIn_r _ [47, 48, 49, 50] (by decide +kernel) (by decide +kernel)
set_option maxRecDepth 20000 in
theorem gX1_holesWithChoices_J6_bitCount_0f7a4 : GoodIn wsX1_holesWithChoices (va_wsS RX1 81 yJ6_bitCount_0f7a4 wsJ6_bitCount_0f7a4) := goodIn_app (goodIn_of _ (by decide +kernel)) ggX1_holesWithChoices_J6_bitCount_0f7a4
theorem dX1_holesWithChoices_0 : decode cX1_holesWithChoices 0 = .ok (.iconst 0, 1) := by decide +kernel
theorem dX1_holesWithChoices_1 : decode cX1_holesWithChoices 1 = .ok (.istore_n 2, 1) := by decide +kernel
theorem dX1_holesWithChoices_2 : decode cX1_holesWithChoices 2 = .ok (.iconst 0, 1) := by decide +kernel
theorem dX1_holesWithChoices_3 : decode cX1_holesWithChoices 3 = .ok (.istore_n 3, 1) := by decide +kernel
theorem dX1_holesWithChoices_4 : decode cX1_holesWithChoices 4 = .ok (.iload_n 3, 1) := by decide +kernel
theorem dX1_holesWithChoices_5 : decode cX1_holesWithChoices 5 = .ok (.aload_n 0, 1) := by decide +kernel
theorem dX1_holesWithChoices_6 : decode cX1_holesWithChoices 6 = .ok (.invokevirtual 54, 3) := by decide +kernel
theorem dX1_holesWithChoices_9 : decode cX1_holesWithChoices 9 = .ok (.if_icmp .ge 32, 3) := by decide +kernel
theorem dX1_holesWithChoices_12 : decode cX1_holesWithChoices 12 = .ok (.aload_n 0, 1) := by decide +kernel
theorem dX1_holesWithChoices_13 : decode cX1_holesWithChoices 13 = .ok (.iload_n 3, 1) := by decide +kernel
theorem dX1_holesWithChoices_14 : decode cX1_holesWithChoices 14 = .ok (.invokevirtual 66, 3) := by decide +kernel
theorem dX1_holesWithChoices_17 : decode cX1_holesWithChoices 17 = .ok (.ifCond .eq 18, 3) := by decide +kernel
theorem dX1_holesWithChoices_20 : decode cX1_holesWithChoices 20 = .ok (.aload_n 0, 1) := by decide +kernel
theorem dX1_holesWithChoices_21 : decode cX1_holesWithChoices 21 = .ok (.iload_n 3, 1) := by decide +kernel
theorem dX1_holesWithChoices_22 : decode cX1_holesWithChoices 22 = .ok (.invokevirtual 80, 3) := by decide +kernel
theorem dX1_holesWithChoices_25 : decode cX1_holesWithChoices 25 = .ok (.invokestatic 81, 3) := by decide +kernel
theorem dX1_holesWithChoices_28 : decode cX1_holesWithChoices 28 = .ok (.iload_n 1, 1) := by decide +kernel
theorem dX1_holesWithChoices_29 : decode cX1_holesWithChoices 29 = .ok (.if_icmp .ne 6, 3) := by decide +kernel
theorem dX1_holesWithChoices_32 : decode cX1_holesWithChoices 32 = .ok (.iinc 2 1, 3) := by decide +kernel
theorem dX1_holesWithChoices_35 : decode cX1_holesWithChoices 35 = .ok (.iinc 3 1, 3) := by decide +kernel
theorem dX1_holesWithChoices_38 : decode cX1_holesWithChoices 38 = .ok (.goto (-34), 3) := by decide +kernel
theorem dX1_holesWithChoices_41 : decode cX1_holesWithChoices 41 = .ok (.iload_n 2, 1) := by decide +kernel
theorem dX1_holesWithChoices_42 : decode cX1_holesWithChoices 42 = .ok (.ireturn, 1) := by decide +kernel
set_option maxRecDepth 20000 in
theorem ggX2_init_X2_keepSums : GoodIn wsX2_init wsX2_keepSums := goodIn_r _ [10, 5, 19] (by decide +kernel) (by decide +kernel)
set_option maxRecDepth 20000 in
theorem gX2_init_X2_keepSums : GoodIn wsX2_init (wsV RX2 15 RX2 yX2_keepSums wsX2_keepSums) := goodIn_app (goodIn_of _ (by decide +kernel)) ggX2_init_X2_keepSums
set_option maxRecDepth 20000 in
theorem ggX2_init_X2_addHighest : GoodIn wsX2_init wsX2_addHighest := goodIn_r _ [14, 15, 16, 17, 9, 18, 5, 6, 7, 8, 10, 19] (by decide +kernel) (by decide +kernel)
set_option maxRecDepth 20000 in
theorem gX2_init_X2_addHighest : GoodIn wsX2_init (wsV RX2 19 RX2 yX2_addHighest wsX2_addHighest) := goodIn_app (goodIn_of _ (by decide +kernel)) ggX2_init_X2_addHighest
