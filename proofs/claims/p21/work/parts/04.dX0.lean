theorem dX0_init_0 : decode cX0_init 0 = .ok (.aload_n 0, 1) := by decide +kernel
theorem dX0_init_1 : decode cX0_init 1 = .ok (.invokespecial 3, 3) := by decide +kernel
theorem dX0_init_4 : decode cX0_init 4 = .ok (.aload_n 0, 1) := by decide +kernel
theorem dX0_init_5 : decode cX0_init 5 = .ok (.aload_n 1, 1) := by decide +kernel
theorem dX0_init_6 : decode cX0_init 6 = .ok (.putfield 9, 3) := by decide +kernel
theorem dX0_init_9 : decode cX0_init 9 = .ok (.aload_n 0, 1) := by decide +kernel
theorem dX0_init_10 : decode cX0_init 10 = .ok (.aload_n 2, 1) := by decide +kernel
theorem dX0_init_11 : decode cX0_init 11 = .ok (.putfield 15, 3) := by decide +kernel
theorem dX0_init_14 : decode cX0_init 14 = .ok (.aload_n 0, 1) := by decide +kernel
theorem dX0_init_15 : decode cX0_init 15 = .ok (.bipush 36, 2) := by decide +kernel
theorem dX0_init_17 : decode cX0_init 17 = .ok (.newarray .int, 2) := by decide +kernel
theorem dX0_init_19 : decode cX0_init 19 = .ok (.putfield 19, 3) := by decide +kernel
theorem dX0_init_22 : decode cX0_init 22 = .ok (.aload_n 0, 1) := by decide +kernel
theorem dX0_init_23 : decode cX0_init 23 = .ok (.bipush 36, 2) := by decide +kernel
theorem dX0_init_25 : decode cX0_init 25 = .ok (.newarray .int, 2) := by decide +kernel
theorem dX0_init_27 : decode cX0_init 27 = .ok (.putfield 22, 3) := by decide +kernel
theorem dX0_init_30 : decode cX0_init 30 = .ok (.aload_n 0, 1) := by decide +kernel
theorem dX0_init_31 : decode cX0_init 31 = .ok (.bipush 36, 2) := by decide +kernel
theorem dX0_init_33 : decode cX0_init 33 = .ok (.newarray .int, 2) := by decide +kernel
theorem dX0_init_35 : decode cX0_init 35 = .ok (.putfield 25, 3) := by decide +kernel
theorem dX0_init_38 : decode cX0_init 38 = .ok (.aload_n 0, 1) := by decide +kernel
theorem dX0_init_39 : decode cX0_init 39 = .ok (.iconst 1, 1) := by decide +kernel
theorem dX0_init_40 : decode cX0_init 40 = .ok (.putfield 28, 3) := by decide +kernel
theorem dX0_init_43 : decode cX0_init 43 = .ok (.return_, 1) := by decide +kernel
set_option maxRecDepth 20000 in
theorem ggX0_clear_X4_write : GoodIn wsX0_clear wsX4_write := goodIn_r _ [5] (by decide +kernel) (by decide +kernel)
set_option maxRecDepth 20000 in
theorem gX0_clear_X4_write_n32 : GoodIn wsX0_clear (wsX4_write) := ggX0_clear_X4_write
theorem dX0_clear_0 : decode cX0_clear 0 = .ok (.aload_n 0, 1) := by decide +kernel
theorem dX0_clear_1 : decode cX0_clear 1 = .ok (.iload_n 1, 1) := by decide +kernel
theorem dX0_clear_2 : decode cX0_clear 2 = .ok (.putfield 28, 3) := by decide +kernel
theorem dX0_clear_5 : decode cX0_clear 5 = .ok (.iconst 0, 1) := by decide +kernel
theorem dX0_clear_6 : decode cX0_clear 6 = .ok (.istore_n 2, 1) := by decide +kernel
theorem dX0_clear_7 : decode cX0_clear 7 = .ok (.iload_n 2, 1) := by decide +kernel
theorem dX0_clear_8 : decode cX0_clear 8 = .ok (.bipush 36, 2) := by decide +kernel
theorem dX0_clear_10 : decode cX0_clear 10 = .ok (.if_icmp .ge 18, 3) := by decide +kernel
theorem dX0_clear_13 : decode cX0_clear 13 = .ok (.aload_n 0, 1) := by decide +kernel
theorem dX0_clear_14 : decode cX0_clear 14 = .ok (.getfield 19, 3) := by decide +kernel
theorem dX0_clear_17 : decode cX0_clear 17 = .ok (.iload_n 2, 1) := by decide +kernel
theorem dX0_clear_18 : decode cX0_clear 18 = .ok (.iconst 0, 1) := by decide +kernel
theorem dX0_clear_19 : decode cX0_clear 19 = .ok (.invokestatic 32, 3) := by decide +kernel
theorem dX0_clear_22 : decode cX0_clear 22 = .ok (.iinc 2 1, 3) := by decide +kernel
theorem dX0_clear_25 : decode cX0_clear 25 = .ok (.goto (-18), 3) := by decide +kernel
theorem dX0_clear_28 : decode cX0_clear 28 = .ok (.return_, 1) := by decide +kernel
set_option maxRecDepth 20000 in
theorem ggX0_tellSum_X4_read : GoodIn wsX0_tellSum wsX4_read := goodIn_r _ [4] (by decide +kernel) (by decide +kernel)
set_option maxRecDepth 20000 in
theorem gX0_tellSum_X4_read_n36 : GoodIn wsX0_tellSum (wsX4_read) := ggX0_tellSum_X4_read
set_option maxRecDepth 20000 in
theorem ggX0_tellSum_X4_write : GoodIn wsX0_tellSum wsX4_write := goodIn_r _ [6] (by decide +kernel) (by decide +kernel)
set_option maxRecDepth 20000 in
theorem gX0_tellSum_X4_write_n32 : GoodIn wsX0_tellSum (wsX4_write) := ggX0_tellSum_X4_write
theorem dX0_tellSum_0 : decode cX0_tellSum 0 = .ok (.aload_n 0, 1) := by decide +kernel
theorem dX0_tellSum_1 : decode cX0_tellSum 1 = .ok (.getfield 19, 3) := by decide +kernel
theorem dX0_tellSum_4 : decode cX0_tellSum 4 = .ok (.iload_n 1, 1) := by decide +kernel
theorem dX0_tellSum_5 : decode cX0_tellSum 5 = .ok (.invokestatic 36, 3) := by decide +kernel
theorem dX0_tellSum_8 : decode cX0_tellSum 8 = .ok (.istore_n 3, 1) := by decide +kernel
theorem dX0_tellSum_9 : decode cX0_tellSum 9 = .ok (.aload_n 0, 1) := by decide +kernel
theorem dX0_tellSum_10 : decode cX0_tellSum 10 = .ok (.getfield 19, 3) := by decide +kernel
theorem dX0_tellSum_13 : decode cX0_tellSum 13 = .ok (.iload_n 1, 1) := by decide +kernel
theorem dX0_tellSum_14 : decode cX0_tellSum 14 = .ok (.iload_n 2, 1) := by decide +kernel
theorem dX0_tellSum_15 : decode cX0_tellSum 15 = .ok (.invokestatic 32, 3) := by decide +kernel
theorem dX0_tellSum_18 : decode cX0_tellSum 18 = .ok (.iload_n 3, 1) := by decide +kernel
theorem dX0_tellSum_19 : decode cX0_tellSum 19 = .ok (.ireturn, 1) := by decide +kernel
set_option maxRecDepth 20000 in
theorem ggX0_toldAt_X4_read : GoodIn wsX0_toldAt wsX4_read := goodIn_r _ [4] (by decide +kernel) (by decide +kernel)
set_option maxRecDepth 20000 in
theorem gX0_toldAt_X4_read_n36 : GoodIn wsX0_toldAt (wsX4_read) := ggX0_toldAt_X4_read
theorem dX0_toldAt_0 : decode cX0_toldAt 0 = .ok (.aload_n 0, 1) := by decide +kernel
theorem dX0_toldAt_1 : decode cX0_toldAt 1 = .ok (.getfield 19, 3) := by decide +kernel
theorem dX0_toldAt_4 : decode cX0_toldAt 4 = .ok (.iload_n 1, 1) := by decide +kernel
theorem dX0_toldAt_5 : decode cX0_toldAt 5 = .ok (.invokestatic 36, 3) := by decide +kernel
theorem dX0_toldAt_8 : decode cX0_toldAt 8 = .ok (.ireturn, 1) := by decide +kernel
set_option maxRecDepth 20000 in
theorem ggX0_join_X4_write : GoodIn wsX0_join wsX4_write := goodIn_r _ [6] (by decide +kernel) (by decide +kernel)
set_option maxRecDepth 20000 in
theorem gX0_join_X4_write_n32 : GoodIn wsX0_join (wsX4_write) := ggX0_join_X4_write
set_option maxRecDepth 20000 in
theorem ggX0_join_X4_read : GoodIn wsX0_join wsX4_read := goodIn_r _ [8] (by decide +kernel) (by decide +kernel)
set_option maxRecDepth 20000 in
theorem gX0_join_X4_read_n36 : GoodIn wsX0_join (wsX4_read) := ggX0_join_X4_read
theorem dX0_join_0 : decode cX0_join 0 = .ok (.aload_n 0, 1) := by decide +kernel
theorem dX0_join_1 : decode cX0_join 1 = .ok (.getfield 25, 3) := by decide +kernel
theorem dX0_join_4 : decode cX0_join 4 = .ok (.iload_n 1, 1) := by decide +kernel
theorem dX0_join_5 : decode cX0_join 5 = .ok (.iconst 0, 1) := by decide +kernel
theorem dX0_join_6 : decode cX0_join 6 = .ok (.invokestatic 32, 3) := by decide +kernel
theorem dX0_join_9 : decode cX0_join 9 = .ok (.aload_n 0, 1) := by decide +kernel
theorem dX0_join_10 : decode cX0_join 10 = .ok (.getfield 9, 3) := by decide +kernel
theorem dX0_join_13 : decode cX0_join 13 = .ok (.iload_n 1, 1) := by decide +kernel
theorem dX0_join_14 : decode cX0_join 14 = .ok (.invokestatic 36, 3) := by decide +kernel
theorem dX0_join_17 : decode cX0_join 17 = .ok (.iconst (-1), 1) := by decide +kernel
theorem dX0_join_18 : decode cX0_join 18 = .ok (.if_icmp .ne 13, 3) := by decide +kernel
theorem dX0_join_21 : decode cX0_join 21 = .ok (.aload_n 0, 1) := by decide +kernel
theorem dX0_join_22 : decode cX0_join 22 = .ok (.getfield 22, 3) := by decide +kernel
theorem dX0_join_25 : decode cX0_join 25 = .ok (.iload_n 1, 1) := by decide +kernel
theorem dX0_join_26 : decode cX0_join 26 = .ok (.iconst (-1), 1) := by decide +kernel
theorem dX0_join_27 : decode cX0_join 27 = .ok (.invokestatic 32, 3) := by decide +kernel
theorem dX0_join_30 : decode cX0_join 30 = .ok (.return_, 1) := by decide +kernel
theorem dX0_join_31 : decode cX0_join 31 = .ok (.iload_n 2, 1) := by decide +kernel
theorem dX0_join_32 : decode cX0_join 32 = .ok (.iconst (-1), 1) := by decide +kernel
theorem dX0_join_33 : decode cX0_join 33 = .ok (.if_icmp .ne 7, 3) := by decide +kernel
theorem dX0_join_36 : decode cX0_join 36 = .ok (.iconst (-1), 1) := by decide +kernel
theorem dX0_join_37 : decode cX0_join 37 = .ok (.goto 11, 3) := by decide +kernel
theorem dX0_join_40 : decode cX0_join 40 = .ok (.aload_n 0, 1) := by decide +kernel
theorem dX0_join_41 : decode cX0_join 41 = .ok (.getfield 22, 3) := by decide +kernel
theorem dX0_join_44 : decode cX0_join 44 = .ok (.iload_n 2, 1) := by decide +kernel
theorem dX0_join_45 : decode cX0_join 45 = .ok (.invokestatic 36, 3) := by decide +kernel
theorem dX0_join_48 : decode cX0_join 48 = .ok (.istore_n 3, 1) := by decide +kernel
theorem dX0_join_49 : decode cX0_join 49 = .ok (.iload_n 3, 1) := by decide +kernel
theorem dX0_join_50 : decode cX0_join 50 = .ok (.iconst (-1), 1) := by decide +kernel
theorem dX0_join_51 : decode cX0_join 51 = .ok (.if_icmp .ne 5, 3) := by decide +kernel
theorem dX0_join_54 : decode cX0_join 54 = .ok (.iload_n 1, 1) := by decide +kernel
theorem dX0_join_55 : decode cX0_join 55 = .ok (.istore_n 3, 1) := by decide +kernel
theorem dX0_join_56 : decode cX0_join 56 = .ok (.aload_n 0, 1) := by decide +kernel
theorem dX0_join_57 : decode cX0_join 57 = .ok (.getfield 22, 3) := by decide +kernel
theorem dX0_join_60 : decode cX0_join 60 = .ok (.iload_n 1, 1) := by decide +kernel
theorem dX0_join_61 : decode cX0_join 61 = .ok (.iload_n 3, 1) := by decide +kernel
theorem dX0_join_62 : decode cX0_join 62 = .ok (.invokestatic 32, 3) := by decide +kernel
theorem dX0_join_65 : decode cX0_join 65 = .ok (.aload_n 0, 1) := by decide +kernel
theorem dX0_join_66 : decode cX0_join 66 = .ok (.getfield 25, 3) := by decide +kernel
theorem dX0_join_69 : decode cX0_join 69 = .ok (.iload_n 3, 1) := by decide +kernel
theorem dX0_join_70 : decode cX0_join 70 = .ok (.aload_n 0, 1) := by decide +kernel
theorem dX0_join_71 : decode cX0_join 71 = .ok (.getfield 25, 3) := by decide +kernel
theorem dX0_join_74 : decode cX0_join 74 = .ok (.iload_n 3, 1) := by decide +kernel
theorem dX0_join_75 : decode cX0_join 75 = .ok (.invokestatic 36, 3) := by decide +kernel
theorem dX0_join_78 : decode cX0_join 78 = .ok (.iconst 1, 1) := by decide +kernel
theorem dX0_join_79 : decode cX0_join 79 = .ok (.iadd, 1) := by decide +kernel
theorem dX0_join_80 : decode cX0_join 80 = .ok (.invokestatic 32, 3) := by decide +kernel
theorem dX0_join_83 : decode cX0_join 83 = .ok (.return_, 1) := by decide +kernel
set_option maxRecDepth 20000 in
theorem ggX0_beginsAt_X4_read : GoodIn wsX0_beginsAt wsX4_read := goodIn_r _ [4] (by decide +kernel) (by decide +kernel)
set_option maxRecDepth 20000 in
theorem gX0_beginsAt_X4_read_n36 : GoodIn wsX0_beginsAt (wsX4_read) := ggX0_beginsAt_X4_read
theorem dX0_beginsAt_0 : decode cX0_beginsAt 0 = .ok (.aload_n 0, 1) := by decide +kernel
theorem dX0_beginsAt_1 : decode cX0_beginsAt 1 = .ok (.getfield 22, 3) := by decide +kernel
theorem dX0_beginsAt_4 : decode cX0_beginsAt 4 = .ok (.iload_n 1, 1) := by decide +kernel
theorem dX0_beginsAt_5 : decode cX0_beginsAt 5 = .ok (.invokestatic 36, 3) := by decide +kernel
theorem dX0_beginsAt_8 : decode cX0_beginsAt 8 = .ok (.iload_n 1, 1) := by decide +kernel
theorem dX0_beginsAt_9 : decode cX0_beginsAt 9 = .ok (.if_icmp .ne 7, 3) := by decide +kernel
theorem dX0_beginsAt_12 : decode cX0_beginsAt 12 = .ok (.iconst 1, 1) := by decide +kernel
theorem dX0_beginsAt_13 : decode cX0_beginsAt 13 = .ok (.goto 4, 3) := by decide +kernel
theorem dX0_beginsAt_16 : decode cX0_beginsAt 16 = .ok (.iconst 0, 1) := by decide +kernel
theorem dX0_beginsAt_17 : decode cX0_beginsAt 17 = .ok (.ireturn, 1) := by decide +kernel
set_option maxRecDepth 20000 in
theorem ggX0_tell_X4_read : GoodIn wsX0_tell wsX4_read := goodIn_r _ [8] (by decide +kernel) (by decide +kernel)
set_option maxRecDepth 20000 in
theorem gX0_tell_X4_read_n36 : GoodIn wsX0_tell (wsX4_read) := ggX0_tell_X4_read
set_option maxRecDepth 20000 in
theorem ggX0_tell_X0_look : GoodIn wsX0_tell wsX0_look := goodIn_r _ [13, 14, 4, 5, 2, 15, 16, 6, 7, 8, 39, 40, 41, 42, 43, 44, 45, 46, 47] (by decide +kernel) (by decide +kernel)
set_option maxRecDepth 20000 in
theorem gX0_tell_X0_look : GoodIn wsX0_tell (wsV RX0 40 RX0 yX0_look wsX0_look) := goodIn_app (goodIn_of _ (by decide +kernel)) ggX0_tell_X0_look
set_option maxRecDepth 20000 in
theorem ggX0_tell_X0_isWellFrom : GoodIn wsX0_tell wsX0_isWellFrom := goodIn_r _ [20, 3, 2, 4, 21, 14, 5, 9, 10, 11, 12, 13, 15, 16, 6, 7, 8, 22, 23, 24, 25, 26, 27, 28, 29, 30, 31, 32, 33, 34, 35, 36, 37, 38, 39, 40, 41, 42, 43, 44, 45, 46, 47, 48] (by decide +kernel) (by decide +kernel)
set_option maxRecDepth 20000 in
theorem gX0_tell_X0_isWellFrom : GoodIn wsX0_tell (wsV RX0 50 RX0 yX0_isWellFrom wsX0_isWellFrom) := goodIn_app (goodIn_of _ (by decide +kernel)) ggX0_tell_X0_isWellFrom
theorem dX0_tell_0 : decode cX0_tell 0 = .ok (.aload_n 0, 1) := by decide +kernel
theorem dX0_tell_1 : decode cX0_tell 1 = .ok (.getfield 22, 3) := by decide +kernel
theorem dX0_tell_4 : decode cX0_tell 4 = .ok (.iload_n 1, 1) := by decide +kernel
theorem dX0_tell_5 : decode cX0_tell 5 = .ok (.invokestatic 36, 3) := by decide +kernel
theorem dX0_tell_8 : decode cX0_tell 8 = .ok (.istore_n 3, 1) := by decide +kernel
theorem dX0_tell_9 : decode cX0_tell 9 = .ok (.iload_n 3, 1) := by decide +kernel
theorem dX0_tell_10 : decode cX0_tell 10 = .ok (.iconst (-1), 1) := by decide +kernel
theorem dX0_tell_11 : decode cX0_tell 11 = .ok (.if_icmp .ne 5, 3) := by decide +kernel
theorem dX0_tell_14 : decode cX0_tell 14 = .ok (.iconst (-1), 1) := by decide +kernel
theorem dX0_tell_15 : decode cX0_tell 15 = .ok (.ireturn, 1) := by decide +kernel
theorem dX0_tell_16 : decode cX0_tell 16 = .ok (.aload_n 0, 1) := by decide +kernel
theorem dX0_tell_17 : decode cX0_tell 17 = .ok (.iload_n 3, 1) := by decide +kernel
theorem dX0_tell_18 : decode cX0_tell 18 = .ok (.invokevirtual 40, 3) := by decide +kernel
theorem dX0_tell_21 : decode cX0_tell 21 = .ok (.iload_n 2, 1) := by decide +kernel
theorem dX0_tell_22 : decode cX0_tell 22 = .ok (.tableswitch 64 0 4 #[34, 36, 45, 54, 59], 34) := by decide +kernel
theorem dX0_tell_56 : decode cX0_tell 56 = .ok (.iload_n 3, 1) := by decide +kernel
theorem dX0_tell_57 : decode cX0_tell 57 = .ok (.ireturn, 1) := by decide +kernel
theorem dX0_tell_58 : decode cX0_tell 58 = .ok (.aload_n 0, 1) := by decide +kernel
theorem dX0_tell_59 : decode cX0_tell 59 = .ok (.getfield 25, 3) := by decide +kernel
theorem dX0_tell_62 : decode cX0_tell 62 = .ok (.iload_n 3, 1) := by decide +kernel
theorem dX0_tell_63 : decode cX0_tell 63 = .ok (.invokestatic 36, 3) := by decide +kernel
theorem dX0_tell_66 : decode cX0_tell 66 = .ok (.ireturn, 1) := by decide +kernel
theorem dX0_tell_67 : decode cX0_tell 67 = .ok (.aload_n 0, 1) := by decide +kernel
theorem dX0_tell_68 : decode cX0_tell 68 = .ok (.getfield 19, 3) := by decide +kernel
theorem dX0_tell_71 : decode cX0_tell 71 = .ok (.iload_n 3, 1) := by decide +kernel
theorem dX0_tell_72 : decode cX0_tell 72 = .ok (.invokestatic 36, 3) := by decide +kernel
theorem dX0_tell_75 : decode cX0_tell 75 = .ok (.ireturn, 1) := by decide +kernel
theorem dX0_tell_76 : decode cX0_tell 76 = .ok (.aload_n 0, 1) := by decide +kernel
theorem dX0_tell_77 : decode cX0_tell 77 = .ok (.getfield 44, 3) := by decide +kernel
theorem dX0_tell_80 : decode cX0_tell 80 = .ok (.ireturn, 1) := by decide +kernel
theorem dX0_tell_81 : decode cX0_tell 81 = .ok (.aload_n 0, 1) := by decide +kernel
theorem dX0_tell_82 : decode cX0_tell 82 = .ok (.getfield 47, 3) := by decide +kernel
theorem dX0_tell_85 : decode cX0_tell 85 = .ok (.ireturn, 1) := by decide +kernel
theorem dX0_tell_86 : decode cX0_tell 86 = .ok (.aload_n 0, 1) := by decide +kernel
theorem dX0_tell_87 : decode cX0_tell 87 = .ok (.iload_n 3, 1) := by decide +kernel
theorem dX0_tell_88 : decode cX0_tell 88 = .ok (.invokevirtual 50, 3) := by decide +kernel
theorem dX0_tell_91 : decode cX0_tell 91 = .ok (.ifCond .eq 7, 3) := by decide +kernel
theorem dX0_tell_94 : decode cX0_tell 94 = .ok (.iconst 1, 1) := by decide +kernel
theorem dX0_tell_95 : decode cX0_tell 95 = .ok (.goto 4, 3) := by decide +kernel
theorem dX0_tell_98 : decode cX0_tell 98 = .ok (.iconst 0, 1) := by decide +kernel
theorem dX0_tell_99 : decode cX0_tell 99 = .ok (.ireturn, 1) := by decide +kernel
set_option maxRecDepth 20000 in
theorem ggX0_isWellFrom_X0_look : GoodIn wsX0_isWellFrom wsX0_look := goodIn_r _ [11, 5, 3, 6, 2, 12, 13, 14, 15, 16, 34, 35, 36, 37, 38, 39, 40, 41, 42] (by decide +kernel) (by decide +kernel)
set_option maxRecDepth 20000 in
theorem gX0_isWellFrom_X0_look : GoodIn wsX0_isWellFrom (wsV RX0 40 RX0 yX0_look wsX0_look) := goodIn_app (goodIn_of _ (by decide +kernel)) ggX0_isWellFrom_X0_look
set_option maxRecDepth 20000 in
theorem ggX0_isWellFrom_X0_sawAlike : GoodIn wsX0_isWellFrom wsX0_sawAlike := goodIn_r _ [20, 5, 3, 21, 22, 23, 24, 25, 26, 27, 34, 35, 36, 37, 38, 39, 40, 41, 42] (by decide +kernel) (by decide +kernel)
set_option maxRecDepth 20000 in
theorem gX0_isWellFrom_X0_sawAlike : GoodIn wsX0_isWellFrom (wsV RX0 54 RX0 yX0_sawAlike wsX0_sawAlike) := goodIn_app (goodIn_of _ (by decide +kernel)) ggX0_isWellFrom_X0_sawAlike
set_option maxRecDepth 20000 in
theorem ggX0_isWellFrom_X4_read : GoodIn wsX0_isWellFrom wsX4_read := goodIn_r _ [16] (by decide +kernel) (by decide +kernel)
set_option maxRecDepth 20000 in
theorem gX0_isWellFrom_X4_read_n36 : GoodIn wsX0_isWellFrom (wsX4_read) := ggX0_isWellFrom_X4_read
set_option maxRecDepth 20000 in
theorem ggX0_isWellFrom_X2_make : GoodIn wsX0_isWellFrom wsX2_make := goodIn_r _ [32, 33, 43] (by decide +kernel) (by decide +kernel)
set_option maxRecDepth 20000 in
theorem gX0_isWellFrom_X2_make : GoodIn wsX0_isWellFrom (wsV RX0 61 RX2 yX2_make wsX2_make) := goodIn_app (goodIn_of _ (by decide +kernel)) ggX0_isWellFrom_X2_make
theorem dX0_isWellFrom_0 : decode cX0_isWellFrom 0 = .ok (.aload_n 0, 1) := by decide +kernel
theorem dX0_isWellFrom_1 : decode cX0_isWellFrom 1 = .ok (.iload_n 1, 1) := by decide +kernel
theorem dX0_isWellFrom_2 : decode cX0_isWellFrom 2 = .ok (.invokevirtual 40, 3) := by decide +kernel
theorem dX0_isWellFrom_5 : decode cX0_isWellFrom 5 = .ok (.aload_n 0, 1) := by decide +kernel
theorem dX0_isWellFrom_6 : decode cX0_isWellFrom 6 = .ok (.invokevirtual 54, 3) := by decide +kernel
theorem dX0_isWellFrom_9 : decode cX0_isWellFrom 9 = .ok (.ifCond .eq 5, 3) := by decide +kernel
theorem dX0_isWellFrom_12 : decode cX0_isWellFrom 12 = .ok (.iconst 0, 1) := by decide +kernel
theorem dX0_isWellFrom_13 : decode cX0_isWellFrom 13 = .ok (.ireturn, 1) := by decide +kernel
theorem dX0_isWellFrom_14 : decode cX0_isWellFrom 14 = .ok (.aload_n 0, 1) := by decide +kernel
theorem dX0_isWellFrom_15 : decode cX0_isWellFrom 15 = .ok (.getfield 19, 3) := by decide +kernel
theorem dX0_isWellFrom_18 : decode cX0_isWellFrom 18 = .ok (.iload_n 1, 1) := by decide +kernel
theorem dX0_isWellFrom_19 : decode cX0_isWellFrom 19 = .ok (.invokestatic 36, 3) := by decide +kernel
theorem dX0_isWellFrom_22 : decode cX0_isWellFrom 22 = .ok (.istore_n 2, 1) := by decide +kernel
theorem dX0_isWellFrom_23 : decode cX0_isWellFrom 23 = .ok (.aload_n 0, 1) := by decide +kernel
theorem dX0_isWellFrom_24 : decode cX0_isWellFrom 24 = .ok (.getfield 25, 3) := by decide +kernel
theorem dX0_isWellFrom_27 : decode cX0_isWellFrom 27 = .ok (.iload_n 1, 1) := by decide +kernel
theorem dX0_isWellFrom_28 : decode cX0_isWellFrom 28 = .ok (.invokestatic 36, 3) := by decide +kernel
theorem dX0_isWellFrom_31 : decode cX0_isWellFrom 31 = .ok (.aload_n 0, 1) := by decide +kernel
theorem dX0_isWellFrom_32 : decode cX0_isWellFrom 32 = .ok (.getfield 44, 3) := by decide +kernel
theorem dX0_isWellFrom_35 : decode cX0_isWellFrom 35 = .ok (.isub, 1) := by decide +kernel
theorem dX0_isWellFrom_36 : decode cX0_isWellFrom 36 = .ok (.istore_n 3, 1) := by decide +kernel
theorem dX0_isWellFrom_37 : decode cX0_isWellFrom 37 = .ok (.iload_n 2, 1) := by decide +kernel
theorem dX0_isWellFrom_38 : decode cX0_isWellFrom 38 = .ok (.ifCond .eq 30, 3) := by decide +kernel
theorem dX0_isWellFrom_41 : decode cX0_isWellFrom 41 = .ok (.aload_n 0, 1) := by decide +kernel
theorem dX0_isWellFrom_42 : decode cX0_isWellFrom 42 = .ok (.getfield 15, 3) := by decide +kernel
theorem dX0_isWellFrom_45 : decode cX0_isWellFrom 45 = .ok (.sipush 1022, 3) := by decide +kernel
theorem dX0_isWellFrom_48 : decode cX0_isWellFrom 48 = .ok (.aload_n 0, 1) := by decide +kernel
theorem dX0_isWellFrom_49 : decode cX0_isWellFrom 49 = .ok (.getfield 58, 3) := by decide +kernel
theorem dX0_isWellFrom_52 : decode cX0_isWellFrom 52 = .ok (.iconst (-1), 1) := by decide +kernel
theorem dX0_isWellFrom_53 : decode cX0_isWellFrom 53 = .ok (.ixor, 1) := by decide +kernel
theorem dX0_isWellFrom_54 : decode cX0_isWellFrom 54 = .ok (.iand, 1) := by decide +kernel
theorem dX0_isWellFrom_55 : decode cX0_isWellFrom 55 = .ok (.iload_n 3, 1) := by decide +kernel
theorem dX0_isWellFrom_56 : decode cX0_isWellFrom 56 = .ok (.iload_n 2, 1) := by decide +kernel
theorem dX0_isWellFrom_57 : decode cX0_isWellFrom 57 = .ok (.aload_n 0, 1) := by decide +kernel
theorem dX0_isWellFrom_58 : decode cX0_isWellFrom 58 = .ok (.getfield 47, 3) := by decide +kernel
theorem dX0_isWellFrom_61 : decode cX0_isWellFrom 61 = .ok (.isub, 1) := by decide +kernel
theorem dX0_isWellFrom_62 : decode cX0_isWellFrom 62 = .ok (.invokevirtual 61, 3) := by decide +kernel
theorem dX0_isWellFrom_65 : decode cX0_isWellFrom 65 = .ok (.ifCond .eq 7, 3) := by decide +kernel
theorem dX0_isWellFrom_68 : decode cX0_isWellFrom 68 = .ok (.iconst 1, 1) := by decide +kernel
theorem dX0_isWellFrom_69 : decode cX0_isWellFrom 69 = .ok (.goto 4, 3) := by decide +kernel
theorem dX0_isWellFrom_72 : decode cX0_isWellFrom 72 = .ok (.iconst 0, 1) := by decide +kernel
theorem dX0_isWellFrom_73 : decode cX0_isWellFrom 73 = .ok (.ireturn, 1) := by decide +kernel
set_option maxRecDepth 20000 in
theorem ggX0_numbersFor_X4_read : GoodIn wsX0_numbersFor wsX4_read := goodIn_r _ [10] (by decide +kernel) (by decide +kernel)
set_option maxRecDepth 20000 in
theorem gX0_numbersFor_X4_read_n36 : GoodIn wsX0_numbersFor (wsX4_read) := ggX0_numbersFor_X4_read
set_option maxRecDepth 20000 in
theorem ggX0_numbersFor_X0_look : GoodIn wsX0_numbersFor wsX0_look := goodIn_r _ [15, 2, 5, 6, 4, 16, 17, 8, 9, 10, 35, 36, 37, 38, 39, 40, 41, 42, 43] (by decide +kernel) (by decide +kernel)
set_option maxRecDepth 20000 in
theorem gX0_numbersFor_X0_look : GoodIn wsX0_numbersFor (wsV RX0 40 RX0 yX0_look wsX0_look) := goodIn_app (goodIn_of _ (by decide +kernel)) ggX0_numbersFor_X0_look
set_option maxRecDepth 20000 in
theorem ggX0_numbersFor_X0_sawAlike : GoodIn wsX0_numbersFor wsX0_sawAlike := goodIn_r _ [21, 2, 5, 22, 23, 24, 25, 26, 27, 28, 35, 36, 37, 38, 39, 40, 41, 42, 43] (by decide +kernel) (by decide +kernel)
set_option maxRecDepth 20000 in
theorem gX0_numbersFor_X0_sawAlike : GoodIn wsX0_numbersFor (wsV RX0 54 RX0 yX0_sawAlike wsX0_sawAlike) := goodIn_app (goodIn_of _ (by decide +kernel)) ggX0_numbersFor_X0_sawAlike
set_option maxRecDepth 20000 in
theorem ggX0_numbersFor_X2_make : GoodIn wsX0_numbersFor wsX2_make := goodIn_r _ [33, 34, 44] (by decide +kernel) (by decide +kernel)
set_option maxRecDepth 20000 in
theorem gX0_numbersFor_X2_make : GoodIn wsX0_numbersFor (wsV RX0 61 RX2 yX2_make wsX2_make) := goodIn_app (goodIn_of _ (by decide +kernel)) ggX0_numbersFor_X2_make
theorem dX0_numbersFor_0 : decode cX0_numbersFor 0 = .ok (.aload_n 0, 1) := by decide +kernel
theorem dX0_numbersFor_1 : decode cX0_numbersFor 1 = .ok (.getfield 22, 3) := by decide +kernel
theorem dX0_numbersFor_4 : decode cX0_numbersFor 4 = .ok (.iload_n 1, 1) := by decide +kernel
theorem dX0_numbersFor_5 : decode cX0_numbersFor 5 = .ok (.invokestatic 36, 3) := by decide +kernel
theorem dX0_numbersFor_8 : decode cX0_numbersFor 8 = .ok (.istore_n 2, 1) := by decide +kernel
theorem dX0_numbersFor_9 : decode cX0_numbersFor 9 = .ok (.iload_n 2, 1) := by decide +kernel
theorem dX0_numbersFor_10 : decode cX0_numbersFor 10 = .ok (.iconst (-1), 1) := by decide +kernel
theorem dX0_numbersFor_11 : decode cX0_numbersFor 11 = .ok (.if_icmp .ne 5, 3) := by decide +kernel
theorem dX0_numbersFor_14 : decode cX0_numbersFor 14 = .ok (.iconst 0, 1) := by decide +kernel
theorem dX0_numbersFor_15 : decode cX0_numbersFor 15 = .ok (.ireturn, 1) := by decide +kernel
theorem dX0_numbersFor_16 : decode cX0_numbersFor 16 = .ok (.aload_n 0, 1) := by decide +kernel
theorem dX0_numbersFor_17 : decode cX0_numbersFor 17 = .ok (.iload_n 2, 1) := by decide +kernel
theorem dX0_numbersFor_18 : decode cX0_numbersFor 18 = .ok (.invokevirtual 40, 3) := by decide +kernel
theorem dX0_numbersFor_21 : decode cX0_numbersFor 21 = .ok (.aload_n 0, 1) := by decide +kernel
theorem dX0_numbersFor_22 : decode cX0_numbersFor 22 = .ok (.invokevirtual 54, 3) := by decide +kernel
theorem dX0_numbersFor_25 : decode cX0_numbersFor 25 = .ok (.ifCond .eq 5, 3) := by decide +kernel
theorem dX0_numbersFor_28 : decode cX0_numbersFor 28 = .ok (.iconst 0, 1) := by decide +kernel
theorem dX0_numbersFor_29 : decode cX0_numbersFor 29 = .ok (.ireturn, 1) := by decide +kernel
theorem dX0_numbersFor_30 : decode cX0_numbersFor 30 = .ok (.sipush 1022, 3) := by decide +kernel
theorem dX0_numbersFor_33 : decode cX0_numbersFor 33 = .ok (.aload_n 0, 1) := by decide +kernel
theorem dX0_numbersFor_34 : decode cX0_numbersFor 34 = .ok (.getfield 58, 3) := by decide +kernel
theorem dX0_numbersFor_37 : decode cX0_numbersFor 37 = .ok (.iconst (-1), 1) := by decide +kernel
theorem dX0_numbersFor_38 : decode cX0_numbersFor 38 = .ok (.ixor, 1) := by decide +kernel
theorem dX0_numbersFor_39 : decode cX0_numbersFor 39 = .ok (.iand, 1) := by decide +kernel
theorem dX0_numbersFor_40 : decode cX0_numbersFor 40 = .ok (.istore_n 3, 1) := by decide +kernel
theorem dX0_numbersFor_41 : decode cX0_numbersFor 41 = .ok (.aload_n 0, 1) := by decide +kernel
theorem dX0_numbersFor_42 : decode cX0_numbersFor 42 = .ok (.getfield 19, 3) := by decide +kernel
theorem dX0_numbersFor_45 : decode cX0_numbersFor 45 = .ok (.iload_n 2, 1) := by decide +kernel
theorem dX0_numbersFor_46 : decode cX0_numbersFor 46 = .ok (.invokestatic 36, 3) := by decide +kernel
theorem dX0_numbersFor_49 : decode cX0_numbersFor 49 = .ok (.istore 4, 2) := by decide +kernel
theorem dX0_numbersFor_51 : decode cX0_numbersFor 51 = .ok (.iload 4, 2) := by decide +kernel
theorem dX0_numbersFor_53 : decode cX0_numbersFor 53 = .ok (.ifCond .ne 5, 3) := by decide +kernel
theorem dX0_numbersFor_56 : decode cX0_numbersFor 56 = .ok (.iload_n 3, 1) := by decide +kernel
theorem dX0_numbersFor_57 : decode cX0_numbersFor 57 = .ok (.ireturn, 1) := by decide +kernel
theorem dX0_numbersFor_58 : decode cX0_numbersFor 58 = .ok (.aload_n 0, 1) := by decide +kernel
theorem dX0_numbersFor_59 : decode cX0_numbersFor 59 = .ok (.getfield 25, 3) := by decide +kernel
theorem dX0_numbersFor_62 : decode cX0_numbersFor 62 = .ok (.iload_n 2, 1) := by decide +kernel
theorem dX0_numbersFor_63 : decode cX0_numbersFor 63 = .ok (.invokestatic 36, 3) := by decide +kernel
theorem dX0_numbersFor_66 : decode cX0_numbersFor 66 = .ok (.aload_n 0, 1) := by decide +kernel
theorem dX0_numbersFor_67 : decode cX0_numbersFor 67 = .ok (.getfield 44, 3) := by decide +kernel
theorem dX0_numbersFor_70 : decode cX0_numbersFor 70 = .ok (.isub, 1) := by decide +kernel
theorem dX0_numbersFor_71 : decode cX0_numbersFor 71 = .ok (.iconst 1, 1) := by decide +kernel
theorem dX0_numbersFor_72 : decode cX0_numbersFor 72 = .ok (.isub, 1) := by decide +kernel
theorem dX0_numbersFor_73 : decode cX0_numbersFor 73 = .ok (.istore 5, 2) := by decide +kernel
theorem dX0_numbersFor_75 : decode cX0_numbersFor 75 = .ok (.iload 4, 2) := by decide +kernel
theorem dX0_numbersFor_77 : decode cX0_numbersFor 77 = .ok (.aload_n 0, 1) := by decide +kernel
theorem dX0_numbersFor_78 : decode cX0_numbersFor 78 = .ok (.getfield 47, 3) := by decide +kernel
theorem dX0_numbersFor_81 : decode cX0_numbersFor 81 = .ok (.isub, 1) := by decide +kernel
theorem dX0_numbersFor_82 : decode cX0_numbersFor 82 = .ok (.istore 6, 2) := by decide +kernel
theorem dX0_numbersFor_84 : decode cX0_numbersFor 84 = .ok (.iconst 0, 1) := by decide +kernel
theorem dX0_numbersFor_85 : decode cX0_numbersFor 85 = .ok (.istore 7, 2) := by decide +kernel
theorem dX0_numbersFor_87 : decode cX0_numbersFor 87 = .ok (.iconst 1, 1) := by decide +kernel
theorem dX0_numbersFor_88 : decode cX0_numbersFor 88 = .ok (.istore 8, 2) := by decide +kernel
theorem dX0_numbersFor_90 : decode cX0_numbersFor 90 = .ok (.iload 8, 2) := by decide +kernel
theorem dX0_numbersFor_92 : decode cX0_numbersFor 92 = .ok (.bipush 9, 2) := by decide +kernel
theorem dX0_numbersFor_94 : decode cX0_numbersFor 94 = .ok (.if_icmp .gt 52, 3) := by decide +kernel
theorem dX0_numbersFor_97 : decode cX0_numbersFor 97 = .ok (.iconst 1, 1) := by decide +kernel
theorem dX0_numbersFor_98 : decode cX0_numbersFor 98 = .ok (.iload 8, 2) := by decide +kernel
theorem dX0_numbersFor_100 : decode cX0_numbersFor 100 = .ok (.ishl, 1) := by decide +kernel
theorem dX0_numbersFor_101 : decode cX0_numbersFor 101 = .ok (.istore 9, 2) := by decide +kernel
theorem dX0_numbersFor_103 : decode cX0_numbersFor 103 = .ok (.iload_n 3, 1) := by decide +kernel
theorem dX0_numbersFor_104 : decode cX0_numbersFor 104 = .ok (.iload 9, 2) := by decide +kernel
theorem dX0_numbersFor_106 : decode cX0_numbersFor 106 = .ok (.iand, 1) := by decide +kernel
theorem dX0_numbersFor_107 : decode cX0_numbersFor 107 = .ok (.ifCond .eq 33, 3) := by decide +kernel
theorem dX0_numbersFor_110 : decode cX0_numbersFor 110 = .ok (.aload_n 0, 1) := by decide +kernel
theorem dX0_numbersFor_111 : decode cX0_numbersFor 111 = .ok (.getfield 15, 3) := by decide +kernel
theorem dX0_numbersFor_114 : decode cX0_numbersFor 114 = .ok (.iload_n 3, 1) := by decide +kernel
theorem dX0_numbersFor_115 : decode cX0_numbersFor 115 = .ok (.iload 9, 2) := by decide +kernel
theorem dX0_numbersFor_117 : decode cX0_numbersFor 117 = .ok (.iconst (-1), 1) := by decide +kernel
theorem dX0_numbersFor_118 : decode cX0_numbersFor 118 = .ok (.ixor, 1) := by decide +kernel
theorem dX0_numbersFor_119 : decode cX0_numbersFor 119 = .ok (.iand, 1) := by decide +kernel
theorem dX0_numbersFor_120 : decode cX0_numbersFor 120 = .ok (.iload 5, 2) := by decide +kernel
theorem dX0_numbersFor_122 : decode cX0_numbersFor 122 = .ok (.iload 6, 2) := by decide +kernel
theorem dX0_numbersFor_124 : decode cX0_numbersFor 124 = .ok (.iload 8, 2) := by decide +kernel
theorem dX0_numbersFor_126 : decode cX0_numbersFor 126 = .ok (.isub, 1) := by decide +kernel
theorem dX0_numbersFor_127 : decode cX0_numbersFor 127 = .ok (.invokevirtual 61, 3) := by decide +kernel
theorem dX0_numbersFor_130 : decode cX0_numbersFor 130 = .ok (.ifCond .eq 10, 3) := by decide +kernel
theorem dX0_numbersFor_133 : decode cX0_numbersFor 133 = .ok (.iload 7, 2) := by decide +kernel
theorem dX0_numbersFor_135 : decode cX0_numbersFor 135 = .ok (.iload 9, 2) := by decide +kernel
theorem dX0_numbersFor_137 : decode cX0_numbersFor 137 = .ok (.ior, 1) := by decide +kernel
theorem dX0_numbersFor_138 : decode cX0_numbersFor 138 = .ok (.istore 7, 2) := by decide +kernel
theorem dX0_numbersFor_140 : decode cX0_numbersFor 140 = .ok (.iinc 8 1, 3) := by decide +kernel
theorem dX0_numbersFor_143 : decode cX0_numbersFor 143 = .ok (.goto (-53), 3) := by decide +kernel
theorem dX0_numbersFor_146 : decode cX0_numbersFor 146 = .ok (.iload 7, 2) := by decide +kernel
theorem dX0_numbersFor_148 : decode cX0_numbersFor 148 = .ok (.ireturn, 1) := by decide +kernel
set_option maxRecDepth 20000 in
theorem ggX0_sawAlike_J6_bitCount_0f7a4 : GoodIn wsX0_sawAlike wsJ6_bitCount_0f7a4 := goodIn_r _ [6, 7, 8, 9] (by decide +kernel) (by decide +kernel)
set_option maxRecDepth 20000 in
theorem gX0_sawAlike_J6_bitCount_0f7a4 : GoodIn wsX0_sawAlike (va_wsS RX0 67 yJ6_bitCount_0f7a4 wsJ6_bitCount_0f7a4) := goodIn_app (goodIn_of _ (by decide +kernel)) ggX0_sawAlike_J6_bitCount_0f7a4
theorem dX0_sawAlike_0 : decode cX0_sawAlike 0 = .ok (.aload_n 0, 1) := by decide +kernel
theorem dX0_sawAlike_1 : decode cX0_sawAlike 1 = .ok (.getfield 58, 3) := by decide +kernel
theorem dX0_sawAlike_4 : decode cX0_sawAlike 4 = .ok (.invokestatic 67, 3) := by decide +kernel
theorem dX0_sawAlike_7 : decode cX0_sawAlike 7 = .ok (.aload_n 0, 1) := by decide +kernel
theorem dX0_sawAlike_8 : decode cX0_sawAlike 8 = .ok (.getfield 44, 3) := by decide +kernel
theorem dX0_sawAlike_11 : decode cX0_sawAlike 11 = .ok (.if_icmp .eq 7, 3) := by decide +kernel
theorem dX0_sawAlike_14 : decode cX0_sawAlike 14 = .ok (.iconst 1, 1) := by decide +kernel
theorem dX0_sawAlike_15 : decode cX0_sawAlike 15 = .ok (.goto 4, 3) := by decide +kernel
theorem dX0_sawAlike_18 : decode cX0_sawAlike 18 = .ok (.iconst 0, 1) := by decide +kernel
theorem dX0_sawAlike_19 : decode cX0_sawAlike 19 = .ok (.ireturn, 1) := by decide +kernel
set_option maxRecDepth 20000 in
theorem ggX0_look_X4_read : GoodIn wsX0_look wsX4_read := goodIn_r _ [9] (by decide +kernel) (by decide +kernel)
set_option maxRecDepth 20000 in
theorem gX0_look_X4_read_n36 : GoodIn wsX0_look (wsX4_read) := ggX0_look_X4_read
theorem dX0_look_0 : decode cX0_look 0 = .ok (.aload_n 0, 1) := by decide +kernel
theorem dX0_look_1 : decode cX0_look 1 = .ok (.iconst 0, 1) := by decide +kernel
theorem dX0_look_2 : decode cX0_look 2 = .ok (.putfield 58, 3) := by decide +kernel
theorem dX0_look_5 : decode cX0_look 5 = .ok (.aload_n 0, 1) := by decide +kernel
theorem dX0_look_6 : decode cX0_look 6 = .ok (.iconst 0, 1) := by decide +kernel
theorem dX0_look_7 : decode cX0_look 7 = .ok (.putfield 44, 3) := by decide +kernel
theorem dX0_look_10 : decode cX0_look 10 = .ok (.aload_n 0, 1) := by decide +kernel
theorem dX0_look_11 : decode cX0_look 11 = .ok (.iconst 0, 1) := by decide +kernel
theorem dX0_look_12 : decode cX0_look 12 = .ok (.putfield 47, 3) := by decide +kernel
theorem dX0_look_15 : decode cX0_look 15 = .ok (.aload_n 0, 1) := by decide +kernel
theorem dX0_look_16 : decode cX0_look 16 = .ok (.getfield 25, 3) := by decide +kernel
theorem dX0_look_19 : decode cX0_look 19 = .ok (.iload_n 1, 1) := by decide +kernel
theorem dX0_look_20 : decode cX0_look 20 = .ok (.invokestatic 36, 3) := by decide +kernel
theorem dX0_look_23 : decode cX0_look 23 = .ok (.istore_n 2, 1) := by decide +kernel
theorem dX0_look_24 : decode cX0_look 24 = .ok (.iconst 0, 1) := by decide +kernel
theorem dX0_look_25 : decode cX0_look 25 = .ok (.istore_n 3, 1) := by decide +kernel
theorem dX0_look_26 : decode cX0_look 26 = .ok (.iload_n 3, 1) := by decide +kernel
theorem dX0_look_27 : decode cX0_look 27 = .ok (.iload_n 2, 1) := by decide +kernel
theorem dX0_look_28 : decode cX0_look 28 = .ok (.if_icmp .ge 65, 3) := by decide +kernel
theorem dX0_look_31 : decode cX0_look 31 = .ok (.aload_n 0, 1) := by decide +kernel
theorem dX0_look_32 : decode cX0_look 32 = .ok (.getfield 9, 3) := by decide +kernel
theorem dX0_look_35 : decode cX0_look 35 = .ok (.iload_n 1, 1) := by decide +kernel
theorem dX0_look_36 : decode cX0_look 36 = .ok (.iload_n 3, 1) := by decide +kernel
theorem dX0_look_37 : decode cX0_look 37 = .ok (.aload_n 0, 1) := by decide +kernel
theorem dX0_look_38 : decode cX0_look 38 = .ok (.getfield 28, 3) := by decide +kernel
theorem dX0_look_41 : decode cX0_look 41 = .ok (.imul, 1) := by decide +kernel
theorem dX0_look_42 : decode cX0_look 42 = .ok (.iadd, 1) := by decide +kernel
theorem dX0_look_43 : decode cX0_look 43 = .ok (.invokestatic 36, 3) := by decide +kernel
theorem dX0_look_46 : decode cX0_look 46 = .ok (.istore 4, 2) := by decide +kernel
theorem dX0_look_48 : decode cX0_look 48 = .ok (.iload 4, 2) := by decide +kernel
theorem dX0_look_50 : decode cX0_look 50 = .ok (.ifCond .le 37, 3) := by decide +kernel
theorem dX0_look_53 : decode cX0_look 53 = .ok (.aload_n 0, 1) := by decide +kernel
theorem dX0_look_54 : decode cX0_look 54 = .ok (.dup, 1) := by decide +kernel
theorem dX0_look_55 : decode cX0_look 55 = .ok (.getfield 58, 3) := by decide +kernel
theorem dX0_look_58 : decode cX0_look 58 = .ok (.iconst 1, 1) := by decide +kernel
theorem dX0_look_59 : decode cX0_look 59 = .ok (.iload 4, 2) := by decide +kernel
theorem dX0_look_61 : decode cX0_look 61 = .ok (.ishl, 1) := by decide +kernel
theorem dX0_look_62 : decode cX0_look 62 = .ok (.ior, 1) := by decide +kernel
theorem dX0_look_63 : decode cX0_look 63 = .ok (.putfield 58, 3) := by decide +kernel
theorem dX0_look_66 : decode cX0_look 66 = .ok (.aload_n 0, 1) := by decide +kernel
theorem dX0_look_67 : decode cX0_look 67 = .ok (.dup, 1) := by decide +kernel
theorem dX0_look_68 : decode cX0_look 68 = .ok (.getfield 44, 3) := by decide +kernel
theorem dX0_look_71 : decode cX0_look 71 = .ok (.iconst 1, 1) := by decide +kernel
theorem dX0_look_72 : decode cX0_look 72 = .ok (.iadd, 1) := by decide +kernel
theorem dX0_look_73 : decode cX0_look 73 = .ok (.putfield 44, 3) := by decide +kernel
theorem dX0_look_76 : decode cX0_look 76 = .ok (.aload_n 0, 1) := by decide +kernel
theorem dX0_look_77 : decode cX0_look 77 = .ok (.dup, 1) := by decide +kernel
theorem dX0_look_78 : decode cX0_look 78 = .ok (.getfield 47, 3) := by decide +kernel
theorem dX0_look_81 : decode cX0_look 81 = .ok (.iload 4, 2) := by decide +kernel
theorem dX0_look_83 : decode cX0_look 83 = .ok (.iadd, 1) := by decide +kernel
theorem dX0_look_84 : decode cX0_look 84 = .ok (.putfield 47, 3) := by decide +kernel
theorem dX0_look_87 : decode cX0_look 87 = .ok (.iinc 3 1, 3) := by decide +kernel
theorem dX0_look_90 : decode cX0_look 90 = .ok (.goto (-64), 3) := by decide +kernel
theorem dX0_look_93 : decode cX0_look 93 = .ok (.return_, 1) := by decide +kernel
set_option maxRecDepth 20000 in
theorem ggX1_init_X2_init : GoodIn wsX1_init wsX2_init := goodIn_r _ [16, 17, 2, 3, 18, 19, 20, 21, 22, 7, 23, 24, 25, 26, 27, 28, 29, 30, 31, 66] (by decide +kernel) (by decide +kernel)
set_option maxRecDepth 20000 in
theorem gX1_init_X2_init : GoodIn wsX1_init (wsX2_init) := ggX1_init_X2_init
set_option maxRecDepth 20000 in
theorem ggX1_init_X0_init : GoodIn wsX1_init wsX0_init := goodIn_r _ [34, 35, 2, 3, 36, 37, 4, 38, 39, 40, 41, 72, 73, 74, 75, 76, 77, 78, 79, 80] (by decide +kernel) (by decide +kernel)
set_option maxRecDepth 20000 in
theorem gX1_init_X0_init : GoodIn wsX1_init (wsX0_init) := ggX1_init_X0_init
set_option maxRecDepth 20000 in
theorem ggX1_init_X1_clear : GoodIn wsX1_init wsX1_clear := goodIn_r _ [46, 47, 48, 8, 12, 13, 49, 50, 51, 52, 53, 54, 11, 55, 41, 38, 56, 57, 58, 45, 59, 60, 61, 62, 63, 40, 36, 39, 64, 65, 67, 68, 69, 70, 71, 72, 73, 74, 75, 76, 77, 78, 79, 80] (by decide +kernel) (by decide +kernel)
set_option maxRecDepth 20000 in
theorem gX1_init_X1_clear : GoodIn wsX1_init (wsV RX1 30 RX1 yX1_clear wsX1_clear) := goodIn_app (goodIn_of _ (by decide +kernel)) ggX1_init_X1_clear
