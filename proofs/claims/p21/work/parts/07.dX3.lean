theorem dX3_init_0 : decode cX3_init 0 = .ok (.aload_n 0, 1) := by decide +kernel
theorem dX3_init_1 : decode cX3_init 1 = .ok (.invokespecial 3, 3) := by decide +kernel
theorem dX3_init_4 : decode cX3_init 4 = .ok (.aload_n 0, 1) := by decide +kernel
theorem dX3_init_5 : decode cX3_init 5 = .ok (.aload_n 1, 1) := by decide +kernel
theorem dX3_init_6 : decode cX3_init 6 = .ok (.putfield 9, 3) := by decide +kernel
theorem dX3_init_9 : decode cX3_init 9 = .ok (.aload_n 0, 1) := by decide +kernel
theorem dX3_init_10 : decode cX3_init 10 = .ok (.bipush 36, 2) := by decide +kernel
theorem dX3_init_12 : decode cX3_init 12 = .ok (.newarray .int, 2) := by decide +kernel
theorem dX3_init_14 : decode cX3_init 14 = .ok (.putfield 15, 3) := by decide +kernel
theorem dX3_init_17 : decode cX3_init 17 = .ok (.aload_n 0, 1) := by decide +kernel
theorem dX3_init_18 : decode cX3_init 18 = .ok (.bipush 36, 2) := by decide +kernel
theorem dX3_init_20 : decode cX3_init 20 = .ok (.newarray .int, 2) := by decide +kernel
theorem dX3_init_22 : decode cX3_init 22 = .ok (.putfield 19, 3) := by decide +kernel
theorem dX3_init_25 : decode cX3_init 25 = .ok (.aload_n 0, 1) := by decide +kernel
theorem dX3_init_26 : decode cX3_init 26 = .ok (.iconst 0, 1) := by decide +kernel
theorem dX3_init_27 : decode cX3_init 27 = .ok (.putfield 22, 3) := by decide +kernel
theorem dX3_init_30 : decode cX3_init 30 = .ok (.aload_n 0, 1) := by decide +kernel
theorem dX3_init_31 : decode cX3_init 31 = .ok (.iconst 0, 1) := by decide +kernel
theorem dX3_init_32 : decode cX3_init 32 = .ok (.putfield 26, 3) := by decide +kernel
theorem dX3_init_35 : decode cX3_init 35 = .ok (.aload_n 0, 1) := by decide +kernel
theorem dX3_init_36 : decode cX3_init 36 = .ok (.iconst 0, 1) := by decide +kernel
theorem dX3_init_37 : decode cX3_init 37 = .ok (.putfield 29, 3) := by decide +kernel
theorem dX3_init_40 : decode cX3_init 40 = .ok (.aload_n 0, 1) := by decide +kernel
theorem dX3_init_41 : decode cX3_init 41 = .ok (.iconst 0, 1) := by decide +kernel
theorem dX3_init_42 : decode cX3_init 42 = .ok (.putfield 32, 3) := by decide +kernel
theorem dX3_init_45 : decode cX3_init 45 = .ok (.return_, 1) := by decide +kernel
theorem dX3_forget_0 : decode cX3_forget 0 = .ok (.aload_n 0, 1) := by decide +kernel
theorem dX3_forget_1 : decode cX3_forget 1 = .ok (.iconst 0, 1) := by decide +kernel
theorem dX3_forget_2 : decode cX3_forget 2 = .ok (.putfield 32, 3) := by decide +kernel
theorem dX3_forget_5 : decode cX3_forget 5 = .ok (.return_, 1) := by decide +kernel
set_option maxRecDepth 20000 in
theorem ggX3_refresh_X1_isAllWell : GoodIn wsX3_refresh wsX1_isAllWell := goodIn_r _ [10, 11, 12, 13, 14, 15, 9, 16, 17, 18, 19, 20, 21, 22, 23, 24, 25, 26, 27, 28, 29, 30, 31, 32, 33, 34, 35, 36, 37, 38, 39, 40, 41, 42, 43, 44, 45, 46, 47, 48, 49, 50, 51, 52, 53, 54, 55, 56, 57, 58, 59, 60, 61, 62, 63, 64, 65, 66, 67, 68, 125, 126, 127, 128, 129, 130, 131, 132, 133, 134, 135, 136, 137, 138, 139] (by decide +kernel) (by decide +kernel)
set_option maxRecDepth 20000 in
theorem gX3_refresh_X1_isAllWell : GoodIn wsX3_refresh (wsV RX3 36 RX1 yX1_isAllWell wsX1_isAllWell) := goodIn_app (goodIn_of _ (by decide +kernel)) ggX3_refresh_X1_isAllWell
set_option maxRecDepth 20000 in
theorem ggX3_refresh_X3_collectHoles : GoodIn wsX3_refresh wsX3_collectHoles := goodIn_r _ [73, 5, 74, 2, 75, 18, 19, 9, 20, 21, 22, 76, 77, 78, 79, 80, 29, 30, 31, 81, 82, 118, 119, 120, 121, 122, 123, 124, 125, 126, 127, 128, 129] (by decide +kernel) (by decide +kernel)
set_option maxRecDepth 20000 in
theorem gX3_refresh_X3_collectHoles : GoodIn wsX3_refresh (wsV RX3 42 RX3 yX3_collectHoles wsX3_collectHoles) := goodIn_app (goodIn_of _ (by decide +kernel)) ggX3_refresh_X3_collectHoles
set_option maxRecDepth 20000 in
theorem ggX3_refresh_X3_fillFrom : GoodIn wsX3_refresh wsX3_fillFrom := goodIn_r _ [85, 2, 5, 74, 3, 86, 87, 88, 72, 89, 4, 90, 91, 92, 93, 9, 94, 80, 29, 30, 31, 81, 82, 95, 96, 97, 98, 11, 12, 99, 77, 78, 79, 100, 101, 102, 26, 103, 28, 40, 36, 37, 38, 41, 39, 42, 43, 44, 45, 46, 47, 48, 49, 50, 51, 52, 53, 54, 55, 56, 57, 58, 59, 60, 61, 62, 63, 64, 104, 105, 106, 107, 108, 109, 110, 111, 112, 113, 114, 115, 116, 117, 83, 84, 118, 119, 120, 121, 122, 123, 124, 125, 126, 127, 128, 129, 130, 131, 132, 133, 134, 135, 136, 137, 138, 139] (by decide +kernel) (by decide +kernel)
set_option maxRecDepth 20000 in
theorem gX3_refresh_X3_fillFrom : GoodIn wsX3_refresh (va_wsS RX3 45 yX3_fillFrom wsX3_fillFrom) := goodIn_app (goodIn_of _ (by decide +kernel)) ggX3_refresh_X3_fillFrom
theorem dX3_refresh_0 : decode cX3_refresh 0 = .ok (.aload_n 0, 1) := by decide +kernel
theorem dX3_refresh_1 : decode cX3_refresh 1 = .ok (.getfield 32, 3) := by decide +kernel
theorem dX3_refresh_4 : decode cX3_refresh 4 = .ok (.ifCond .eq 4, 3) := by decide +kernel
theorem dX3_refresh_7 : decode cX3_refresh 7 = .ok (.return_, 1) := by decide +kernel
theorem dX3_refresh_8 : decode cX3_refresh 8 = .ok (.aload_n 0, 1) := by decide +kernel
theorem dX3_refresh_9 : decode cX3_refresh 9 = .ok (.iconst 1, 1) := by decide +kernel
theorem dX3_refresh_10 : decode cX3_refresh 10 = .ok (.putfield 32, 3) := by decide +kernel
theorem dX3_refresh_13 : decode cX3_refresh 13 = .ok (.aload_n 0, 1) := by decide +kernel
theorem dX3_refresh_14 : decode cX3_refresh 14 = .ok (.iconst 0, 1) := by decide +kernel
theorem dX3_refresh_15 : decode cX3_refresh 15 = .ok (.putfield 22, 3) := by decide +kernel
theorem dX3_refresh_18 : decode cX3_refresh 18 = .ok (.aload_n 0, 1) := by decide +kernel
theorem dX3_refresh_19 : decode cX3_refresh 19 = .ok (.iconst 0, 1) := by decide +kernel
theorem dX3_refresh_20 : decode cX3_refresh 20 = .ok (.putfield 26, 3) := by decide +kernel
theorem dX3_refresh_23 : decode cX3_refresh 23 = .ok (.aload_n 0, 1) := by decide +kernel
theorem dX3_refresh_24 : decode cX3_refresh 24 = .ok (.iconst 0, 1) := by decide +kernel
theorem dX3_refresh_25 : decode cX3_refresh 25 = .ok (.putfield 29, 3) := by decide +kernel
theorem dX3_refresh_28 : decode cX3_refresh 28 = .ok (.aload_n 0, 1) := by decide +kernel
theorem dX3_refresh_29 : decode cX3_refresh 29 = .ok (.getfield 9, 3) := by decide +kernel
theorem dX3_refresh_32 : decode cX3_refresh 32 = .ok (.invokevirtual 36, 3) := by decide +kernel
theorem dX3_refresh_35 : decode cX3_refresh 35 = .ok (.ifCond .eq 12, 3) := by decide +kernel
theorem dX3_refresh_38 : decode cX3_refresh 38 = .ok (.aload_n 0, 1) := by decide +kernel
theorem dX3_refresh_39 : decode cX3_refresh 39 = .ok (.invokevirtual 42, 3) := by decide +kernel
theorem dX3_refresh_42 : decode cX3_refresh 42 = .ok (.aload_n 0, 1) := by decide +kernel
theorem dX3_refresh_43 : decode cX3_refresh 43 = .ok (.iconst 0, 1) := by decide +kernel
theorem dX3_refresh_44 : decode cX3_refresh 44 = .ok (.invokestatic 45, 3) := by decide +kernel
theorem dX3_refresh_47 : decode cX3_refresh 47 = .ok (.return_, 1) := by decide +kernel
set_option maxRecDepth 20000 in
theorem ggX3_told_X3_isUnknown : GoodIn wsX3_told wsX3_isUnknown := goodIn_r _ [6, 7, 8, 9, 10, 11, 12, 13, 14] (by decide +kernel) (by decide +kernel)
set_option maxRecDepth 20000 in
theorem gX3_told_X3_isUnknown : GoodIn wsX3_told (wsV RX3 49 RX3 yX3_isUnknown wsX3_isUnknown) := goodIn_app (goodIn_of _ (by decide +kernel)) ggX3_told_X3_isUnknown
theorem dX3_told_0 : decode cX3_told 0 = .ok (.aload_n 0, 1) := by decide +kernel
theorem dX3_told_1 : decode cX3_told 1 = .ok (.invokevirtual 49, 3) := by decide +kernel
theorem dX3_told_4 : decode cX3_told 4 = .ok (.ifCond .eq 7, 3) := by decide +kernel
theorem dX3_told_7 : decode cX3_told 7 = .ok (.iconst (-1), 1) := by decide +kernel
theorem dX3_told_8 : decode cX3_told 8 = .ok (.goto 7, 3) := by decide +kernel
theorem dX3_told_11 : decode cX3_told 11 = .ok (.aload_n 0, 1) := by decide +kernel
theorem dX3_told_12 : decode cX3_told 12 = .ok (.getfield 29, 3) := by decide +kernel
theorem dX3_told_15 : decode cX3_told 15 = .ok (.ireturn, 1) := by decide +kernel
theorem dX3_tried_0 : decode cX3_tried 0 = .ok (.aload_n 0, 1) := by decide +kernel
theorem dX3_tried_1 : decode cX3_tried 1 = .ok (.getfield 26, 3) := by decide +kernel
theorem dX3_tried_4 : decode cX3_tried 4 = .ok (.ireturn, 1) := by decide +kernel
set_option maxRecDepth 20000 in
theorem ggX3_firstFilling_X3_isUnknown : GoodIn wsX3_firstFilling wsX3_isUnknown := goodIn_r _ [7, 8, 12, 13, 14, 15, 16, 17, 18] (by decide +kernel) (by decide +kernel)
set_option maxRecDepth 20000 in
theorem gX3_firstFilling_X3_isUnknown : GoodIn wsX3_firstFilling (wsV RX3 49 RX3 yX3_isUnknown wsX3_isUnknown) := goodIn_app (goodIn_of _ (by decide +kernel)) ggX3_firstFilling_X3_isUnknown
set_option maxRecDepth 20000 in
theorem ggX3_firstFilling_X4_read : GoodIn wsX3_firstFilling wsX4_read := goodIn_r _ [11] (by decide +kernel) (by decide +kernel)
set_option maxRecDepth 20000 in
theorem gX3_firstFilling_X4_read_n52 : GoodIn wsX3_firstFilling (wsX4_read) := ggX3_firstFilling_X4_read
theorem dX3_firstFilling_0 : decode cX3_firstFilling 0 = .ok (.aload_n 0, 1) := by decide +kernel
theorem dX3_firstFilling_1 : decode cX3_firstFilling 1 = .ok (.invokevirtual 49, 3) := by decide +kernel
theorem dX3_firstFilling_4 : decode cX3_firstFilling 4 = .ok (.ifCond .ne 10, 3) := by decide +kernel
theorem dX3_firstFilling_7 : decode cX3_firstFilling 7 = .ok (.aload_n 0, 1) := by decide +kernel
theorem dX3_firstFilling_8 : decode cX3_firstFilling 8 = .ok (.getfield 29, 3) := by decide +kernel
theorem dX3_firstFilling_11 : decode cX3_firstFilling 11 = .ok (.ifCond .ne 7, 3) := by decide +kernel
theorem dX3_firstFilling_14 : decode cX3_firstFilling 14 = .ok (.iconst 0, 1) := by decide +kernel
theorem dX3_firstFilling_15 : decode cX3_firstFilling 15 = .ok (.goto 11, 3) := by decide +kernel
theorem dX3_firstFilling_18 : decode cX3_firstFilling 18 = .ok (.aload_n 0, 1) := by decide +kernel
theorem dX3_firstFilling_19 : decode cX3_firstFilling 19 = .ok (.getfield 19, 3) := by decide +kernel
theorem dX3_firstFilling_22 : decode cX3_firstFilling 22 = .ok (.iload_n 1, 1) := by decide +kernel
theorem dX3_firstFilling_23 : decode cX3_firstFilling 23 = .ok (.invokestatic 52, 3) := by decide +kernel
theorem dX3_firstFilling_26 : decode cX3_firstFilling 26 = .ok (.ireturn, 1) := by decide +kernel
theorem dX3_isUnknown_0 : decode cX3_isUnknown 0 = .ok (.aload_n 0, 1) := by decide +kernel
theorem dX3_isUnknown_1 : decode cX3_isUnknown 1 = .ok (.getfield 26, 3) := by decide +kernel
theorem dX3_isUnknown_4 : decode cX3_isUnknown 4 = .ok (.sipush 4000, 3) := by decide +kernel
theorem dX3_isUnknown_7 : decode cX3_isUnknown 7 = .ok (.if_icmp .le 7, 3) := by decide +kernel
theorem dX3_isUnknown_10 : decode cX3_isUnknown 10 = .ok (.iconst 1, 1) := by decide +kernel
theorem dX3_isUnknown_11 : decode cX3_isUnknown 11 = .ok (.goto 4, 3) := by decide +kernel
theorem dX3_isUnknown_14 : decode cX3_isUnknown 14 = .ok (.iconst 0, 1) := by decide +kernel
theorem dX3_isUnknown_15 : decode cX3_isUnknown 15 = .ok (.ireturn, 1) := by decide +kernel
set_option maxRecDepth 20000 in
theorem ggX3_isOver_X3_isUnknown : GoodIn wsX3_isOver wsX3_isUnknown := goodIn_r _ [6, 7, 8, 9, 10, 11, 12, 13, 14] (by decide +kernel) (by decide +kernel)
set_option maxRecDepth 20000 in
theorem gX3_isOver_X3_isUnknown : GoodIn wsX3_isOver (wsV RX3 49 RX3 yX3_isUnknown wsX3_isUnknown) := goodIn_app (goodIn_of _ (by decide +kernel)) ggX3_isOver_X3_isUnknown
theorem dX3_isOver_0 : decode cX3_isOver 0 = .ok (.aload_n 0, 1) := by decide +kernel
theorem dX3_isOver_1 : decode cX3_isOver 1 = .ok (.invokevirtual 49, 3) := by decide +kernel
theorem dX3_isOver_4 : decode cX3_isOver 4 = .ok (.ifCond .ne 12, 3) := by decide +kernel
theorem dX3_isOver_7 : decode cX3_isOver 7 = .ok (.aload_n 0, 1) := by decide +kernel
theorem dX3_isOver_8 : decode cX3_isOver 8 = .ok (.getfield 29, 3) := by decide +kernel
theorem dX3_isOver_11 : decode cX3_isOver 11 = .ok (.bipush 100, 2) := by decide +kernel
theorem dX3_isOver_13 : decode cX3_isOver 13 = .ok (.if_icmp .lt 7, 3) := by decide +kernel
theorem dX3_isOver_16 : decode cX3_isOver 16 = .ok (.iconst 1, 1) := by decide +kernel
theorem dX3_isOver_17 : decode cX3_isOver 17 = .ok (.goto 4, 3) := by decide +kernel
theorem dX3_isOver_20 : decode cX3_isOver 20 = .ok (.iconst 0, 1) := by decide +kernel
theorem dX3_isOver_21 : decode cX3_isOver 21 = .ok (.ireturn, 1) := by decide +kernel
set_option maxRecDepth 20000 in
theorem ggX3_collectHoles_X1_cells : GoodIn wsX3_collectHoles wsX1_cells := goodIn_r _ [8, 9, 10, 28, 29, 30, 31, 32] (by decide +kernel) (by decide +kernel)
set_option maxRecDepth 20000 in
theorem gX3_collectHoles_X1_cells : GoodIn wsX3_collectHoles (wsV RX3 56 RX1 yX1_cells wsX1_cells) := goodIn_app (goodIn_of _ (by decide +kernel)) ggX3_collectHoles_X1_cells
set_option maxRecDepth 20000 in
theorem ggX3_collectHoles_X1_isHole : GoodIn wsX3_collectHoles wsX1_isHole := goodIn_r _ [14, 15, 16, 17, 18, 28, 29, 30, 31, 32] (by decide +kernel) (by decide +kernel)
set_option maxRecDepth 20000 in
theorem gX3_collectHoles_X1_isHole : GoodIn wsX3_collectHoles (wsV RX3 60 RX1 yX1_isHole wsX1_isHole) := goodIn_app (goodIn_of _ (by decide +kernel)) ggX3_collectHoles_X1_isHole
set_option maxRecDepth 20000 in
theorem ggX3_collectHoles_X4_write : GoodIn wsX3_collectHoles wsX4_write := goodIn_r _ [20] (by decide +kernel) (by decide +kernel)
set_option maxRecDepth 20000 in
theorem gX3_collectHoles_X4_write_n64 : GoodIn wsX3_collectHoles (wsX4_write) := ggX3_collectHoles_X4_write
theorem dX3_collectHoles_0 : decode cX3_collectHoles 0 = .ok (.iconst 0, 1) := by decide +kernel
theorem dX3_collectHoles_1 : decode cX3_collectHoles 1 = .ok (.istore_n 1, 1) := by decide +kernel
theorem dX3_collectHoles_2 : decode cX3_collectHoles 2 = .ok (.iload_n 1, 1) := by decide +kernel
theorem dX3_collectHoles_3 : decode cX3_collectHoles 3 = .ok (.aload_n 0, 1) := by decide +kernel
theorem dX3_collectHoles_4 : decode cX3_collectHoles 4 = .ok (.getfield 9, 3) := by decide +kernel
theorem dX3_collectHoles_7 : decode cX3_collectHoles 7 = .ok (.invokevirtual 56, 3) := by decide +kernel
theorem dX3_collectHoles_10 : decode cX3_collectHoles 10 = .ok (.if_icmp .ge 42, 3) := by decide +kernel
theorem dX3_collectHoles_13 : decode cX3_collectHoles 13 = .ok (.aload_n 0, 1) := by decide +kernel
theorem dX3_collectHoles_14 : decode cX3_collectHoles 14 = .ok (.getfield 9, 3) := by decide +kernel
theorem dX3_collectHoles_17 : decode cX3_collectHoles 17 = .ok (.iload_n 1, 1) := by decide +kernel
theorem dX3_collectHoles_18 : decode cX3_collectHoles 18 = .ok (.invokevirtual 60, 3) := by decide +kernel
theorem dX3_collectHoles_21 : decode cX3_collectHoles 21 = .ok (.ifCond .eq 25, 3) := by decide +kernel
theorem dX3_collectHoles_24 : decode cX3_collectHoles 24 = .ok (.aload_n 0, 1) := by decide +kernel
theorem dX3_collectHoles_25 : decode cX3_collectHoles 25 = .ok (.getfield 15, 3) := by decide +kernel
theorem dX3_collectHoles_28 : decode cX3_collectHoles 28 = .ok (.aload_n 0, 1) := by decide +kernel
theorem dX3_collectHoles_29 : decode cX3_collectHoles 29 = .ok (.getfield 22, 3) := by decide +kernel
theorem dX3_collectHoles_32 : decode cX3_collectHoles 32 = .ok (.iload_n 1, 1) := by decide +kernel
theorem dX3_collectHoles_33 : decode cX3_collectHoles 33 = .ok (.invokestatic 64, 3) := by decide +kernel
theorem dX3_collectHoles_36 : decode cX3_collectHoles 36 = .ok (.aload_n 0, 1) := by decide +kernel
theorem dX3_collectHoles_37 : decode cX3_collectHoles 37 = .ok (.dup, 1) := by decide +kernel
theorem dX3_collectHoles_38 : decode cX3_collectHoles 38 = .ok (.getfield 22, 3) := by decide +kernel
theorem dX3_collectHoles_41 : decode cX3_collectHoles 41 = .ok (.iconst 1, 1) := by decide +kernel
theorem dX3_collectHoles_42 : decode cX3_collectHoles 42 = .ok (.iadd, 1) := by decide +kernel
theorem dX3_collectHoles_43 : decode cX3_collectHoles 43 = .ok (.putfield 22, 3) := by decide +kernel
theorem dX3_collectHoles_46 : decode cX3_collectHoles 46 = .ok (.iinc 1 1, 3) := by decide +kernel
theorem dX3_collectHoles_49 : decode cX3_collectHoles 49 = .ok (.goto (-47), 3) := by decide +kernel
theorem dX3_collectHoles_52 : decode cX3_collectHoles 52 = .ok (.return_, 1) := by decide +kernel
set_option maxRecDepth 20000 in
theorem ggX3_fillFrom_X3_keepFilling : GoodIn wsX3_fillFrom wsX3_keepFilling := goodIn_r _ [9, 10, 11, 2, 12, 13, 14, 15, 16, 17, 18, 19, 20, 21, 22, 84, 85, 86, 87, 88, 89, 90, 91, 92, 93, 94, 95] (by decide +kernel) (by decide +kernel)
set_option maxRecDepth 20000 in
theorem gX3_fillFrom_X3_keepFilling : GoodIn wsX3_fillFrom (wsV RX3 68 RX3 yX3_keepFilling wsX3_keepFilling) := goodIn_app (goodIn_of _ (by decide +kernel)) ggX3_fillFrom_X3_keepFilling
set_option maxRecDepth 20000 in
theorem ggX3_fillFrom_X4_read : GoodIn wsX3_fillFrom wsX4_read := goodIn_r _ [20] (by decide +kernel) (by decide +kernel)
set_option maxRecDepth 20000 in
theorem gX3_fillFrom_X4_read_n52 : GoodIn wsX3_fillFrom (wsX4_read) := ggX3_fillFrom_X4_read
set_option maxRecDepth 20000 in
theorem ggX3_fillFrom_X1_numbersFor : GoodIn wsX3_fillFrom wsX1_numbersFor := goodIn_r _ [26, 27, 28, 29, 30, 31, 15, 32, 17, 18, 19, 20, 33, 34, 35, 36, 37, 38, 39, 40, 41, 42, 43, 44, 45, 46, 47, 48, 49, 50, 51, 52, 53, 54, 55, 56, 57, 58, 59, 60, 61, 62, 63, 64, 65, 66, 67, 91, 92, 93, 94, 95, 96, 97, 98, 99, 100, 101, 102, 103, 104, 105] (by decide +kernel) (by decide +kernel)
set_option maxRecDepth 20000 in
theorem gX3_fillFrom_X1_numbersFor : GoodIn wsX3_fillFrom (wsV RX3 71 RX1 yX1_numbersFor wsX1_numbersFor) := goodIn_app (goodIn_of _ (by decide +kernel)) ggX3_fillFrom_X1_numbersFor
set_option maxRecDepth 20000 in
theorem ggX3_fillFrom_X3_isOver : GoodIn wsX3_fillFrom wsX3_isOver := goodIn_r _ [71, 10, 72, 73, 74, 8, 75, 4, 84, 85, 86, 87, 88, 89, 90] (by decide +kernel) (by decide +kernel)
set_option maxRecDepth 20000 in
theorem gX3_fillFrom_X3_isOver : GoodIn wsX3_fillFrom (wsV RX3 75 RX3 yX3_isOver wsX3_isOver) := goodIn_app (goodIn_of _ (by decide +kernel)) ggX3_fillFrom_X3_isOver
set_option maxRecDepth 20000 in
theorem ggX3_fillFrom_X3_isUnknown : GoodIn wsX3_fillFrom wsX3_isUnknown := goodIn_r _ [75, 4, 84, 85, 86, 87, 88, 89, 90] (by decide +kernel) (by decide +kernel)
set_option maxRecDepth 20000 in
theorem gX3_fillFrom_X3_isUnknown : GoodIn wsX3_fillFrom (wsV RX3 49 RX3 yX3_isUnknown wsX3_isUnknown) := goodIn_app (goodIn_of _ (by decide +kernel)) ggX3_fillFrom_X3_isUnknown
set_option maxRecDepth 20000 in
theorem ggX3_fillFrom_X4_hasNumber : GoodIn wsX3_fillFrom wsX4_hasNumber := goodIn_r _ [77] (by decide +kernel) (by decide +kernel)
set_option maxRecDepth 20000 in
theorem gX3_fillFrom_X4_hasNumber_n78 : GoodIn wsX3_fillFrom (wsX4_hasNumber) := ggX3_fillFrom_X4_hasNumber
set_option maxRecDepth 20000 in
theorem ggX3_fillFrom_X1_lay : GoodIn wsX3_fillFrom wsX1_lay := goodIn_r _ [81, 17, 21, 19, 22, 91, 92, 93, 94, 95] (by decide +kernel) (by decide +kernel)
set_option maxRecDepth 20000 in
theorem gX3_fillFrom_X1_lay : GoodIn wsX3_fillFrom (wsV RX3 82 RX1 yX1_lay wsX1_lay) := goodIn_app (goodIn_of _ (by decide +kernel)) ggX3_fillFrom_X1_lay
set_option maxRecDepth 20000 in
theorem ggX3_fillFrom_X3_fillFrom : GoodIn wsX3_fillFrom wsX3_fillFrom := goodIn_r _ [0, 1, 2, 3, 4, 5, 6, 7, 8, 9, 10, 11, 12, 13, 14, 15, 16, 17, 18, 19, 20, 21, 22, 23, 24, 25, 26, 27, 28, 29, 30, 31, 32, 33, 34, 35, 36, 37, 38, 39, 40, 41, 42, 43, 44, 45, 46, 47, 48, 49, 50, 51, 52, 53, 54, 55, 56, 57, 58, 59, 60, 61, 62, 63, 64, 65, 66, 67, 68, 69, 70, 71, 72, 73, 74, 75, 76, 77, 78, 79, 80, 81, 82, 83, 84, 85, 86, 87, 88, 89, 90, 91, 92, 93, 94, 95, 96, 97, 98, 99, 100, 101, 102, 103, 104, 105] (by decide +kernel) (by decide +kernel)
set_option maxRecDepth 20000 in
theorem gX3_fillFrom_X3_fillFrom : GoodIn wsX3_fillFrom (va_wsS RX3 45 yX3_fillFrom wsX3_fillFrom) := goodIn_app (goodIn_of _ (by decide +kernel)) ggX3_fillFrom_X3_fillFrom
theorem dX3_fillFrom_0 : decode cX3_fillFrom 0 = .ok (.iload_n 1, 1) := by decide +kernel
theorem dX3_fillFrom_1 : decode cX3_fillFrom 1 = .ok (.aload_n 0, 1) := by decide +kernel
theorem dX3_fillFrom_2 : decode cX3_fillFrom 2 = .ok (.getfield 22, 3) := by decide +kernel
theorem dX3_fillFrom_5 : decode cX3_fillFrom 5 = .ok (.if_icmp .ge 9, 3) := by decide +kernel
theorem dX3_fillFrom_8 : decode cX3_fillFrom 8 = .ok (.iload_n 1, 1) := by decide +kernel
theorem dX3_fillFrom_9 : decode cX3_fillFrom 9 = .ok (.bipush 36, 2) := by decide +kernel
theorem dX3_fillFrom_11 : decode cX3_fillFrom 11 = .ok (.if_icmp .lt 8, 3) := by decide +kernel
theorem dX3_fillFrom_14 : decode cX3_fillFrom 14 = .ok (.aload_n 0, 1) := by decide +kernel
theorem dX3_fillFrom_15 : decode cX3_fillFrom 15 = .ok (.invokevirtual 68, 3) := by decide +kernel
theorem dX3_fillFrom_18 : decode cX3_fillFrom 18 = .ok (.return_, 1) := by decide +kernel
theorem dX3_fillFrom_19 : decode cX3_fillFrom 19 = .ok (.aload_n 0, 1) := by decide +kernel
theorem dX3_fillFrom_20 : decode cX3_fillFrom 20 = .ok (.getfield 9, 3) := by decide +kernel
theorem dX3_fillFrom_23 : decode cX3_fillFrom 23 = .ok (.astore_n 2, 1) := by decide +kernel
theorem dX3_fillFrom_24 : decode cX3_fillFrom 24 = .ok (.aload_n 0, 1) := by decide +kernel
theorem dX3_fillFrom_25 : decode cX3_fillFrom 25 = .ok (.getfield 15, 3) := by decide +kernel
theorem dX3_fillFrom_28 : decode cX3_fillFrom 28 = .ok (.iload_n 1, 1) := by decide +kernel
theorem dX3_fillFrom_29 : decode cX3_fillFrom 29 = .ok (.invokestatic 52, 3) := by decide +kernel
theorem dX3_fillFrom_32 : decode cX3_fillFrom 32 = .ok (.istore_n 3, 1) := by decide +kernel
theorem dX3_fillFrom_33 : decode cX3_fillFrom 33 = .ok (.aload_n 2, 1) := by decide +kernel
theorem dX3_fillFrom_34 : decode cX3_fillFrom 34 = .ok (.iload_n 3, 1) := by decide +kernel
theorem dX3_fillFrom_35 : decode cX3_fillFrom 35 = .ok (.invokevirtual 71, 3) := by decide +kernel
theorem dX3_fillFrom_38 : decode cX3_fillFrom 38 = .ok (.istore 4, 2) := by decide +kernel
theorem dX3_fillFrom_40 : decode cX3_fillFrom 40 = .ok (.iconst 1, 1) := by decide +kernel
theorem dX3_fillFrom_41 : decode cX3_fillFrom 41 = .ok (.istore 5, 2) := by decide +kernel
theorem dX3_fillFrom_43 : decode cX3_fillFrom 43 = .ok (.iload 5, 2) := by decide +kernel
theorem dX3_fillFrom_45 : decode cX3_fillFrom 45 = .ok (.bipush 9, 2) := by decide +kernel
theorem dX3_fillFrom_47 : decode cX3_fillFrom 47 = .ok (.if_icmp .gt 57, 3) := by decide +kernel
theorem dX3_fillFrom_50 : decode cX3_fillFrom 50 = .ok (.aload_n 0, 1) := by decide +kernel
theorem dX3_fillFrom_51 : decode cX3_fillFrom 51 = .ok (.invokevirtual 75, 3) := by decide +kernel
theorem dX3_fillFrom_54 : decode cX3_fillFrom 54 = .ok (.ifCond .ne 50, 3) := by decide +kernel
theorem dX3_fillFrom_57 : decode cX3_fillFrom 57 = .ok (.aload_n 0, 1) := by decide +kernel
theorem dX3_fillFrom_58 : decode cX3_fillFrom 58 = .ok (.dup, 1) := by decide +kernel
theorem dX3_fillFrom_59 : decode cX3_fillFrom 59 = .ok (.getfield 26, 3) := by decide +kernel
theorem dX3_fillFrom_62 : decode cX3_fillFrom 62 = .ok (.iconst 1, 1) := by decide +kernel
theorem dX3_fillFrom_63 : decode cX3_fillFrom 63 = .ok (.iadd, 1) := by decide +kernel
theorem dX3_fillFrom_64 : decode cX3_fillFrom 64 = .ok (.putfield 26, 3) := by decide +kernel
theorem dX3_fillFrom_67 : decode cX3_fillFrom 67 = .ok (.aload_n 0, 1) := by decide +kernel
theorem dX3_fillFrom_68 : decode cX3_fillFrom 68 = .ok (.invokevirtual 49, 3) := by decide +kernel
theorem dX3_fillFrom_71 : decode cX3_fillFrom 71 = .ok (.ifCond .ne 27, 3) := by decide +kernel
theorem dX3_fillFrom_74 : decode cX3_fillFrom 74 = .ok (.iload 4, 2) := by decide +kernel
theorem dX3_fillFrom_76 : decode cX3_fillFrom 76 = .ok (.iload 5, 2) := by decide +kernel
theorem dX3_fillFrom_78 : decode cX3_fillFrom 78 = .ok (.invokestatic 78, 3) := by decide +kernel
theorem dX3_fillFrom_81 : decode cX3_fillFrom 81 = .ok (.ifCond .eq 17, 3) := by decide +kernel
theorem dX3_fillFrom_84 : decode cX3_fillFrom 84 = .ok (.aload_n 2, 1) := by decide +kernel
theorem dX3_fillFrom_85 : decode cX3_fillFrom 85 = .ok (.iload_n 3, 1) := by decide +kernel
theorem dX3_fillFrom_86 : decode cX3_fillFrom 86 = .ok (.iload 5, 2) := by decide +kernel
theorem dX3_fillFrom_88 : decode cX3_fillFrom 88 = .ok (.invokevirtual 82, 3) := by decide +kernel
theorem dX3_fillFrom_91 : decode cX3_fillFrom 91 = .ok (.aload_n 0, 1) := by decide +kernel
theorem dX3_fillFrom_92 : decode cX3_fillFrom 92 = .ok (.iload_n 1, 1) := by decide +kernel
theorem dX3_fillFrom_93 : decode cX3_fillFrom 93 = .ok (.iconst 1, 1) := by decide +kernel
theorem dX3_fillFrom_94 : decode cX3_fillFrom 94 = .ok (.iadd, 1) := by decide +kernel
theorem dX3_fillFrom_95 : decode cX3_fillFrom 95 = .ok (.invokestatic 45, 3) := by decide +kernel
theorem dX3_fillFrom_98 : decode cX3_fillFrom 98 = .ok (.iinc 5 1, 3) := by decide +kernel
theorem dX3_fillFrom_101 : decode cX3_fillFrom 101 = .ok (.goto (-58), 3) := by decide +kernel
theorem dX3_fillFrom_104 : decode cX3_fillFrom 104 = .ok (.aload_n 2, 1) := by decide +kernel
theorem dX3_fillFrom_105 : decode cX3_fillFrom 105 = .ok (.iload_n 3, 1) := by decide +kernel
theorem dX3_fillFrom_106 : decode cX3_fillFrom 106 = .ok (.iconst 0, 1) := by decide +kernel
theorem dX3_fillFrom_107 : decode cX3_fillFrom 107 = .ok (.invokevirtual 82, 3) := by decide +kernel
theorem dX3_fillFrom_110 : decode cX3_fillFrom 110 = .ok (.return_, 1) := by decide +kernel
set_option maxRecDepth 20000 in
theorem ggX3_keepFilling_X1_stoneAt : GoodIn wsX3_keepFilling wsX1_stoneAt := goodIn_r _ [8, 9, 10, 11, 12, 22, 23, 24, 25, 26] (by decide +kernel) (by decide +kernel)
set_option maxRecDepth 20000 in
theorem gX3_keepFilling_X1_stoneAt : GoodIn wsX3_keepFilling (wsV RX3 86 RX1 yX1_stoneAt wsX1_stoneAt) := goodIn_app (goodIn_of _ (by decide +kernel)) ggX3_keepFilling_X1_stoneAt
set_option maxRecDepth 20000 in
theorem ggX3_keepFilling_X4_write : GoodIn wsX3_keepFilling wsX4_write := goodIn_r _ [14] (by decide +kernel) (by decide +kernel)
set_option maxRecDepth 20000 in
theorem gX3_keepFilling_X4_write_n64 : GoodIn wsX3_keepFilling (wsX4_write) := ggX3_keepFilling_X4_write
theorem dX3_keepFilling_0 : decode cX3_keepFilling 0 = .ok (.aload_n 0, 1) := by decide +kernel
theorem dX3_keepFilling_1 : decode cX3_keepFilling 1 = .ok (.getfield 29, 3) := by decide +kernel
theorem dX3_keepFilling_4 : decode cX3_keepFilling 4 = .ok (.ifCond .ne 33, 3) := by decide +kernel
theorem dX3_keepFilling_7 : decode cX3_keepFilling 7 = .ok (.iconst 0, 1) := by decide +kernel
theorem dX3_keepFilling_8 : decode cX3_keepFilling 8 = .ok (.istore_n 1, 1) := by decide +kernel
theorem dX3_keepFilling_9 : decode cX3_keepFilling 9 = .ok (.iload_n 1, 1) := by decide +kernel
theorem dX3_keepFilling_10 : decode cX3_keepFilling 10 = .ok (.bipush 36, 2) := by decide +kernel
theorem dX3_keepFilling_12 : decode cX3_keepFilling 12 = .ok (.if_icmp .ge 25, 3) := by decide +kernel
theorem dX3_keepFilling_15 : decode cX3_keepFilling 15 = .ok (.aload_n 0, 1) := by decide +kernel
theorem dX3_keepFilling_16 : decode cX3_keepFilling 16 = .ok (.getfield 19, 3) := by decide +kernel
theorem dX3_keepFilling_19 : decode cX3_keepFilling 19 = .ok (.iload_n 1, 1) := by decide +kernel
theorem dX3_keepFilling_20 : decode cX3_keepFilling 20 = .ok (.aload_n 0, 1) := by decide +kernel
theorem dX3_keepFilling_21 : decode cX3_keepFilling 21 = .ok (.getfield 9, 3) := by decide +kernel
theorem dX3_keepFilling_24 : decode cX3_keepFilling 24 = .ok (.iload_n 1, 1) := by decide +kernel
theorem dX3_keepFilling_25 : decode cX3_keepFilling 25 = .ok (.invokevirtual 86, 3) := by decide +kernel
theorem dX3_keepFilling_28 : decode cX3_keepFilling 28 = .ok (.invokestatic 64, 3) := by decide +kernel
theorem dX3_keepFilling_31 : decode cX3_keepFilling 31 = .ok (.iinc 1 1, 3) := by decide +kernel
theorem dX3_keepFilling_34 : decode cX3_keepFilling 34 = .ok (.goto (-25), 3) := by decide +kernel
theorem dX3_keepFilling_37 : decode cX3_keepFilling 37 = .ok (.aload_n 0, 1) := by decide +kernel
theorem dX3_keepFilling_38 : decode cX3_keepFilling 38 = .ok (.dup, 1) := by decide +kernel
theorem dX3_keepFilling_39 : decode cX3_keepFilling 39 = .ok (.getfield 29, 3) := by decide +kernel
theorem dX3_keepFilling_42 : decode cX3_keepFilling 42 = .ok (.iconst 1, 1) := by decide +kernel
theorem dX3_keepFilling_43 : decode cX3_keepFilling 43 = .ok (.iadd, 1) := by decide +kernel
theorem dX3_keepFilling_44 : decode cX3_keepFilling 44 = .ok (.putfield 29, 3) := by decide +kernel
theorem dX3_keepFilling_47 : decode cX3_keepFilling 47 = .ok (.return_, 1) := by decide +kernel
set_option maxRecDepth 20000 in
theorem ggX4_init_X1_init : GoodIn wsX4_init wsX1_init := goodIn_r _ [14, 15, 2, 3, 16, 17, 18, 19, 20, 21, 22, 23, 24, 25, 26, 27, 28, 29, 30, 31, 32, 33, 34, 35, 36, 37, 38, 39, 40, 41, 42, 43, 44, 45, 46, 47, 48, 49, 50, 51, 52, 53, 54, 55, 56, 6, 57, 58, 59, 60, 61, 62, 63, 64, 65, 66, 67, 68, 69, 70, 71, 72, 73, 74, 75, 76, 102, 88, 89, 90, 91, 92, 103, 104, 105, 106, 107, 108, 109, 110, 111] (by decide +kernel) (by decide +kernel)
set_option maxRecDepth 20000 in
theorem gX4_init_X1_init : GoodIn wsX4_init (wsX1_init) := ggX4_init_X1_init
set_option maxRecDepth 20000 in
theorem ggX4_init_X3_init : GoodIn wsX4_init wsX3_init := goodIn_r _ [79, 80, 2, 3, 81, 16, 82, 83, 84, 85, 86, 87, 95, 96, 97, 98, 99, 100, 101] (by decide +kernel) (by decide +kernel)
set_option maxRecDepth 20000 in
theorem gX4_init_X3_init : GoodIn wsX4_init (wsX3_init) := ggX4_init_X3_init
