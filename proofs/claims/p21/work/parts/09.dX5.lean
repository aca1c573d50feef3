theorem dX5_init_0 : decode cX5_init 0 = .ok (.aload_n 0, 1) := by decide +kernel
theorem dX5_init_1 : decode cX5_init 1 = .ok (.invokespecial 1, 3) := by decide +kernel
theorem dX5_init_4 : decode cX5_init 4 = .ok (.aload_n 0, 1) := by decide +kernel
theorem dX5_init_5 : decode cX5_init 5 = .ok (.iconst 4, 1) := by decide +kernel
theorem dX5_init_6 : decode cX5_init 6 = .ok (.putfield 7, 3) := by decide +kernel
theorem dX5_init_9 : decode cX5_init 9 = .ok (.aload_n 0, 1) := by decide +kernel
theorem dX5_init_10 : decode cX5_init 10 = .ok (.iconst 4, 1) := by decide +kernel
theorem dX5_init_11 : decode cX5_init 11 = .ok (.putfield 13, 3) := by decide +kernel
theorem dX5_init_14 : decode cX5_init 14 = .ok (.aload_n 0, 1) := by decide +kernel
theorem dX5_init_15 : decode cX5_init 15 = .ok (.iconst 4, 1) := by decide +kernel
theorem dX5_init_16 : decode cX5_init 16 = .ok (.iconst 4, 1) := by decide +kernel
theorem dX5_init_17 : decode cX5_init 17 = .ok (.multianewarray 16 2, 4) := by decide +kernel
theorem dX5_init_21 : decode cX5_init 21 = .ok (.putfield 18, 3) := by decide +kernel
theorem dX5_init_24 : decode cX5_init 24 = .ok (.aload_n 0, 1) := by decide +kernel
theorem dX5_init_25 : decode cX5_init 25 = .ok (.iconst 4, 1) := by decide +kernel
theorem dX5_init_26 : decode cX5_init 26 = .ok (.iconst 4, 1) := by decide +kernel
theorem dX5_init_27 : decode cX5_init 27 = .ok (.multianewarray 16 2, 4) := by decide +kernel
theorem dX5_init_31 : decode cX5_init 31 = .ok (.putfield 21, 3) := by decide +kernel
theorem dX5_init_34 : decode cX5_init 34 = .ok (.aload_n 0, 1) := by decide +kernel
theorem dX5_init_35 : decode cX5_init 35 = .ok (.iconst 4, 1) := by decide +kernel
theorem dX5_init_36 : decode cX5_init 36 = .ok (.iconst 4, 1) := by decide +kernel
theorem dX5_init_37 : decode cX5_init 37 = .ok (.multianewarray 16 2, 4) := by decide +kernel
theorem dX5_init_41 : decode cX5_init 41 = .ok (.putfield 24, 3) := by decide +kernel
theorem dX5_init_44 : decode cX5_init 44 = .ok (.return_, 1) := by decide +kernel
set_option maxRecDepth 20000 in
theorem ggX5_corridor_X5_with : GoodIn wsX5_corridor wsX5_with := goodIn_r _ [8, 1] (by decide +kernel) (by decide +kernel)
set_option maxRecDepth 20000 in
theorem gX5_corridor_X5_with : GoodIn wsX5_corridor (va_wsS RX5 27 yX5_with wsX5_with) := goodIn_app (goodIn_of _ (by decide +kernel)) ggX5_corridor_X5_with
theorem dX5_corridor_0 : decode cX5_corridor 0 = .ok (.iconst 0, 1) := by decide +kernel
theorem dX5_corridor_1 : decode cX5_corridor 1 = .ok (.newarray .int, 2) := by decide +kernel
theorem dX5_corridor_3 : decode cX5_corridor 3 = .ok (.astore 4, 2) := by decide +kernel
theorem dX5_corridor_5 : decode cX5_corridor 5 = .ok (.iconst 0, 1) := by decide +kernel
theorem dX5_corridor_6 : decode cX5_corridor 6 = .ok (.istore 5, 2) := by decide +kernel
theorem dX5_corridor_8 : decode cX5_corridor 8 = .ok (.iload 5, 2) := by decide +kernel
theorem dX5_corridor_10 : decode cX5_corridor 10 = .ok (.iload_n 3, 1) := by decide +kernel
theorem dX5_corridor_11 : decode cX5_corridor 11 = .ok (.ifCond .eq 10, 3) := by decide +kernel
theorem dX5_corridor_14 : decode cX5_corridor 14 = .ok (.aload_n 0, 1) := by decide +kernel
theorem dX5_corridor_15 : decode cX5_corridor 15 = .ok (.getfield 13, 3) := by decide +kernel
theorem dX5_corridor_18 : decode cX5_corridor 18 = .ok (.goto 7, 3) := by decide +kernel
theorem dX5_corridor_21 : decode cX5_corridor 21 = .ok (.aload_n 0, 1) := by decide +kernel
theorem dX5_corridor_22 : decode cX5_corridor 22 = .ok (.getfield 7, 3) := by decide +kernel
theorem dX5_corridor_25 : decode cX5_corridor 25 = .ok (.if_icmp .ge 107, 3) := by decide +kernel
theorem dX5_corridor_28 : decode cX5_corridor 28 = .ok (.iload_n 3, 1) := by decide +kernel
theorem dX5_corridor_29 : decode cX5_corridor 29 = .ok (.ifCond .eq 15, 3) := by decide +kernel
theorem dX5_corridor_32 : decode cX5_corridor 32 = .ok (.aload_n 0, 1) := by decide +kernel
theorem dX5_corridor_33 : decode cX5_corridor 33 = .ok (.getfield 18, 3) := by decide +kernel
theorem dX5_corridor_36 : decode cX5_corridor 36 = .ok (.iload 5, 2) := by decide +kernel
theorem dX5_corridor_38 : decode cX5_corridor 38 = .ok (.aaload, 1) := by decide +kernel
theorem dX5_corridor_39 : decode cX5_corridor 39 = .ok (.iload_n 1, 1) := by decide +kernel
theorem dX5_corridor_40 : decode cX5_corridor 40 = .ok (.iaload, 1) := by decide +kernel
theorem dX5_corridor_41 : decode cX5_corridor 41 = .ok (.goto 12, 3) := by decide +kernel
theorem dX5_corridor_44 : decode cX5_corridor 44 = .ok (.aload_n 0, 1) := by decide +kernel
theorem dX5_corridor_45 : decode cX5_corridor 45 = .ok (.getfield 18, 3) := by decide +kernel
theorem dX5_corridor_48 : decode cX5_corridor 48 = .ok (.iload_n 2, 1) := by decide +kernel
theorem dX5_corridor_49 : decode cX5_corridor 49 = .ok (.aaload, 1) := by decide +kernel
theorem dX5_corridor_50 : decode cX5_corridor 50 = .ok (.iload 5, 2) := by decide +kernel
theorem dX5_corridor_52 : decode cX5_corridor 52 = .ok (.iaload, 1) := by decide +kernel
theorem dX5_corridor_53 : decode cX5_corridor 53 = .ok (.istore 6, 2) := by decide +kernel
theorem dX5_corridor_55 : decode cX5_corridor 55 = .ok (.iload_n 3, 1) := by decide +kernel
theorem dX5_corridor_56 : decode cX5_corridor 56 = .ok (.ifCond .eq 15, 3) := by decide +kernel
theorem dX5_corridor_59 : decode cX5_corridor 59 = .ok (.aload_n 0, 1) := by decide +kernel
theorem dX5_corridor_60 : decode cX5_corridor 60 = .ok (.getfield 7, 3) := by decide +kernel
theorem dX5_corridor_63 : decode cX5_corridor 63 = .ok (.iload 5, 2) := by decide +kernel
theorem dX5_corridor_65 : decode cX5_corridor 65 = .ok (.imul, 1) := by decide +kernel
theorem dX5_corridor_66 : decode cX5_corridor 66 = .ok (.iload_n 1, 1) := by decide +kernel
theorem dX5_corridor_67 : decode cX5_corridor 67 = .ok (.iadd, 1) := by decide +kernel
theorem dX5_corridor_68 : decode cX5_corridor 68 = .ok (.goto 12, 3) := by decide +kernel
theorem dX5_corridor_71 : decode cX5_corridor 71 = .ok (.aload_n 0, 1) := by decide +kernel
theorem dX5_corridor_72 : decode cX5_corridor 72 = .ok (.getfield 7, 3) := by decide +kernel
theorem dX5_corridor_75 : decode cX5_corridor 75 = .ok (.iload_n 2, 1) := by decide +kernel
theorem dX5_corridor_76 : decode cX5_corridor 76 = .ok (.imul, 1) := by decide +kernel
theorem dX5_corridor_77 : decode cX5_corridor 77 = .ok (.iload 5, 2) := by decide +kernel
theorem dX5_corridor_79 : decode cX5_corridor 79 = .ok (.iadd, 1) := by decide +kernel
theorem dX5_corridor_80 : decode cX5_corridor 80 = .ok (.istore 7, 2) := by decide +kernel
theorem dX5_corridor_82 : decode cX5_corridor 82 = .ok (.iload 6, 2) := by decide +kernel
theorem dX5_corridor_84 : decode cX5_corridor 84 = .ok (.ifCond .lt 15, 3) := by decide +kernel
theorem dX5_corridor_87 : decode cX5_corridor 87 = .ok (.aload 4, 2) := by decide +kernel
theorem dX5_corridor_89 : decode cX5_corridor 89 = .ok (.iload 7, 2) := by decide +kernel
theorem dX5_corridor_91 : decode cX5_corridor 91 = .ok (.invokestatic 27, 3) := by decide +kernel
theorem dX5_corridor_94 : decode cX5_corridor 94 = .ok (.astore 4, 2) := by decide +kernel
theorem dX5_corridor_96 : decode cX5_corridor 96 = .ok (.goto 30, 3) := by decide +kernel
theorem dX5_corridor_99 : decode cX5_corridor 99 = .ok (.iload_n 3, 1) := by decide +kernel
theorem dX5_corridor_100 : decode cX5_corridor 100 = .ok (.ifCond .eq 12, 3) := by decide +kernel
theorem dX5_corridor_103 : decode cX5_corridor 103 = .ok (.iload 5, 2) := by decide +kernel
theorem dX5_corridor_105 : decode cX5_corridor 105 = .ok (.iload_n 2, 1) := by decide +kernel
theorem dX5_corridor_106 : decode cX5_corridor 106 = .ok (.if_icmp .le 15, 3) := by decide +kernel
theorem dX5_corridor_109 : decode cX5_corridor 109 = .ok (.goto 23, 3) := by decide +kernel
theorem dX5_corridor_112 : decode cX5_corridor 112 = .ok (.iload 5, 2) := by decide +kernel
theorem dX5_corridor_114 : decode cX5_corridor 114 = .ok (.iload_n 1, 1) := by decide +kernel
theorem dX5_corridor_115 : decode cX5_corridor 115 = .ok (.if_icmp .le 6, 3) := by decide +kernel
theorem dX5_corridor_118 : decode cX5_corridor 118 = .ok (.goto 14, 3) := by decide +kernel
theorem dX5_corridor_121 : decode cX5_corridor 121 = .ok (.iconst 0, 1) := by decide +kernel
theorem dX5_corridor_122 : decode cX5_corridor 122 = .ok (.newarray .int, 2) := by decide +kernel
theorem dX5_corridor_124 : decode cX5_corridor 124 = .ok (.astore 4, 2) := by decide +kernel
theorem dX5_corridor_126 : decode cX5_corridor 126 = .ok (.iinc 5 1, 3) := by decide +kernel
theorem dX5_corridor_129 : decode cX5_corridor 129 = .ok (.goto (-121), 3) := by decide +kernel
theorem dX5_corridor_132 : decode cX5_corridor 132 = .ok (.aload 4, 2) := by decide +kernel
theorem dX5_corridor_134 : decode cX5_corridor 134 = .ok (.areturn, 1) := by decide +kernel
theorem dX5_with_0 : decode cX5_with 0 = .ok (.aload_n 0, 1) := by decide +kernel
theorem dX5_with_1 : decode cX5_with 1 = .ok (.arraylength, 1) := by decide +kernel
theorem dX5_with_2 : decode cX5_with 2 = .ok (.iconst 1, 1) := by decide +kernel
theorem dX5_with_3 : decode cX5_with 3 = .ok (.iadd, 1) := by decide +kernel
theorem dX5_with_4 : decode cX5_with 4 = .ok (.newarray .int, 2) := by decide +kernel
theorem dX5_with_6 : decode cX5_with 6 = .ok (.astore_n 2, 1) := by decide +kernel
theorem dX5_with_7 : decode cX5_with 7 = .ok (.iconst 0, 1) := by decide +kernel
theorem dX5_with_8 : decode cX5_with 8 = .ok (.istore_n 3, 1) := by decide +kernel
theorem dX5_with_9 : decode cX5_with 9 = .ok (.iload_n 3, 1) := by decide +kernel
theorem dX5_with_10 : decode cX5_with 10 = .ok (.aload_n 0, 1) := by decide +kernel
theorem dX5_with_11 : decode cX5_with 11 = .ok (.arraylength, 1) := by decide +kernel
theorem dX5_with_12 : decode cX5_with 12 = .ok (.if_icmp .ge 15, 3) := by decide +kernel
theorem dX5_with_15 : decode cX5_with 15 = .ok (.aload_n 2, 1) := by decide +kernel
theorem dX5_with_16 : decode cX5_with 16 = .ok (.iload_n 3, 1) := by decide +kernel
theorem dX5_with_17 : decode cX5_with 17 = .ok (.aload_n 0, 1) := by decide +kernel
theorem dX5_with_18 : decode cX5_with 18 = .ok (.iload_n 3, 1) := by decide +kernel
theorem dX5_with_19 : decode cX5_with 19 = .ok (.iaload, 1) := by decide +kernel
theorem dX5_with_20 : decode cX5_with 20 = .ok (.iastore, 1) := by decide +kernel
theorem dX5_with_21 : decode cX5_with 21 = .ok (.iinc 3 1, 3) := by decide +kernel
theorem dX5_with_24 : decode cX5_with 24 = .ok (.goto (-15), 3) := by decide +kernel
theorem dX5_with_27 : decode cX5_with 27 = .ok (.aload_n 2, 1) := by decide +kernel
theorem dX5_with_28 : decode cX5_with 28 = .ok (.aload_n 0, 1) := by decide +kernel
theorem dX5_with_29 : decode cX5_with 29 = .ok (.arraylength, 1) := by decide +kernel
theorem dX5_with_30 : decode cX5_with 30 = .ok (.iload_n 1, 1) := by decide +kernel
theorem dX5_with_31 : decode cX5_with 31 = .ok (.iastore, 1) := by decide +kernel
theorem dX5_with_32 : decode cX5_with 32 = .ok (.aload_n 2, 1) := by decide +kernel
theorem dX5_with_33 : decode cX5_with 33 = .ok (.areturn, 1) := by decide +kernel
theorem dX5_at_0 : decode cX5_at 0 = .ok (.aload_n 0, 1) := by decide +kernel
theorem dX5_at_1 : decode cX5_at 1 = .ok (.getfield 18, 3) := by decide +kernel
theorem dX5_at_4 : decode cX5_at 4 = .ok (.iload_n 1, 1) := by decide +kernel
theorem dX5_at_5 : decode cX5_at 5 = .ok (.aload_n 0, 1) := by decide +kernel
theorem dX5_at_6 : decode cX5_at 6 = .ok (.getfield 7, 3) := by decide +kernel
theorem dX5_at_9 : decode cX5_at 9 = .ok (.idiv, 1) := by decide +kernel
theorem dX5_at_10 : decode cX5_at 10 = .ok (.aaload, 1) := by decide +kernel
theorem dX5_at_11 : decode cX5_at 11 = .ok (.iload_n 1, 1) := by decide +kernel
theorem dX5_at_12 : decode cX5_at 12 = .ok (.aload_n 0, 1) := by decide +kernel
theorem dX5_at_13 : decode cX5_at 13 = .ok (.getfield 7, 3) := by decide +kernel
theorem dX5_at_16 : decode cX5_at 16 = .ok (.irem, 1) := by decide +kernel
theorem dX5_at_17 : decode cX5_at 17 = .ok (.iaload, 1) := by decide +kernel
theorem dX5_at_18 : decode cX5_at 18 = .ok (.ireturn, 1) := by decide +kernel
theorem dX5_sumAt_0 : decode cX5_sumAt 0 = .ok (.iload_n 2, 1) := by decide +kernel
theorem dX5_sumAt_1 : decode cX5_sumAt 1 = .ok (.ifCond .eq 10, 3) := by decide +kernel
theorem dX5_sumAt_4 : decode cX5_sumAt 4 = .ok (.aload_n 0, 1) := by decide +kernel
theorem dX5_sumAt_5 : decode cX5_sumAt 5 = .ok (.getfield 24, 3) := by decide +kernel
theorem dX5_sumAt_8 : decode cX5_sumAt 8 = .ok (.goto 7, 3) := by decide +kernel
theorem dX5_sumAt_11 : decode cX5_sumAt 11 = .ok (.aload_n 0, 1) := by decide +kernel
theorem dX5_sumAt_12 : decode cX5_sumAt 12 = .ok (.getfield 21, 3) := by decide +kernel
theorem dX5_sumAt_15 : decode cX5_sumAt 15 = .ok (.iload_n 1, 1) := by decide +kernel
theorem dX5_sumAt_16 : decode cX5_sumAt 16 = .ok (.aload_n 0, 1) := by decide +kernel
theorem dX5_sumAt_17 : decode cX5_sumAt 17 = .ok (.getfield 7, 3) := by decide +kernel
theorem dX5_sumAt_20 : decode cX5_sumAt 20 = .ok (.idiv, 1) := by decide +kernel
theorem dX5_sumAt_21 : decode cX5_sumAt 21 = .ok (.aaload, 1) := by decide +kernel
theorem dX5_sumAt_22 : decode cX5_sumAt 22 = .ok (.iload_n 1, 1) := by decide +kernel
theorem dX5_sumAt_23 : decode cX5_sumAt 23 = .ok (.aload_n 0, 1) := by decide +kernel
theorem dX5_sumAt_24 : decode cX5_sumAt 24 = .ok (.getfield 7, 3) := by decide +kernel
theorem dX5_sumAt_27 : decode cX5_sumAt 27 = .ok (.irem, 1) := by decide +kernel
theorem dX5_sumAt_28 : decode cX5_sumAt 28 = .ok (.iaload, 1) := by decide +kernel
theorem dX5_sumAt_29 : decode cX5_sumAt 29 = .ok (.ireturn, 1) := by decide +kernel
set_option maxRecDepth 20000 in
theorem ggX5_isMade_X5_isMade : GoodIn wsX5_isMade wsX5_isMade := goodIn_r _ [0, 1, 2, 3] (by decide +kernel) (by decide +kernel)
set_option maxRecDepth 20000 in
theorem gX5_isMade_X5_isMade : GoodIn wsX5_isMade (va_wsS RX5 31 yX5_isMade wsX5_isMade) := goodIn_app (goodIn_of _ (by decide +kernel)) ggX5_isMade_X5_isMade
theorem dX5_isMade_0 : decode cX5_isMade 0 = .ok (.iload_n 0, 1) := by decide +kernel
theorem dX5_isMade_1 : decode cX5_isMade 1 = .ok (.ifCond .ne 13, 3) := by decide +kernel
theorem dX5_isMade_4 : decode cX5_isMade 4 = .ok (.iload_n 1, 1) := by decide +kernel
theorem dX5_isMade_5 : decode cX5_isMade 5 = .ok (.ifCond .ne 7, 3) := by decide +kernel
theorem dX5_isMade_8 : decode cX5_isMade 8 = .ok (.iconst 1, 1) := by decide +kernel
theorem dX5_isMade_9 : decode cX5_isMade 9 = .ok (.goto 4, 3) := by decide +kernel
theorem dX5_isMade_12 : decode cX5_isMade 12 = .ok (.iconst 0, 1) := by decide +kernel
theorem dX5_isMade_13 : decode cX5_isMade 13 = .ok (.ireturn, 1) := by decide +kernel
theorem dX5_isMade_14 : decode cX5_isMade 14 = .ok (.iload_n 2, 1) := by decide +kernel
theorem dX5_isMade_15 : decode cX5_isMade 15 = .ok (.istore 4, 2) := by decide +kernel
theorem dX5_isMade_17 : decode cX5_isMade 17 = .ok (.iload 4, 2) := by decide +kernel
theorem dX5_isMade_19 : decode cX5_isMade 19 = .ok (.bipush 10, 2) := by decide +kernel
theorem dX5_isMade_21 : decode cX5_isMade 21 = .ok (.if_icmp .ge 42, 3) := by decide +kernel
theorem dX5_isMade_24 : decode cX5_isMade 24 = .ok (.iload 4, 2) := by decide +kernel
theorem dX5_isMade_26 : decode cX5_isMade 26 = .ok (.iload_n 1, 1) := by decide +kernel
theorem dX5_isMade_27 : decode cX5_isMade 27 = .ok (.if_icmp .gt 36, 3) := by decide +kernel
theorem dX5_isMade_30 : decode cX5_isMade 30 = .ok (.aload_n 3, 1) := by decide +kernel
theorem dX5_isMade_31 : decode cX5_isMade 31 = .ok (.iload 4, 2) := by decide +kernel
theorem dX5_isMade_33 : decode cX5_isMade 33 = .ok (.baload, 1) := by decide +kernel
theorem dX5_isMade_34 : decode cX5_isMade 34 = .ok (.ifCond .ne 23, 3) := by decide +kernel
theorem dX5_isMade_37 : decode cX5_isMade 37 = .ok (.iload_n 0, 1) := by decide +kernel
theorem dX5_isMade_38 : decode cX5_isMade 38 = .ok (.iconst 1, 1) := by decide +kernel
theorem dX5_isMade_39 : decode cX5_isMade 39 = .ok (.isub, 1) := by decide +kernel
theorem dX5_isMade_40 : decode cX5_isMade 40 = .ok (.iload_n 1, 1) := by decide +kernel
theorem dX5_isMade_41 : decode cX5_isMade 41 = .ok (.iload 4, 2) := by decide +kernel
theorem dX5_isMade_43 : decode cX5_isMade 43 = .ok (.isub, 1) := by decide +kernel
theorem dX5_isMade_44 : decode cX5_isMade 44 = .ok (.iload 4, 2) := by decide +kernel
theorem dX5_isMade_46 : decode cX5_isMade 46 = .ok (.iconst 1, 1) := by decide +kernel
theorem dX5_isMade_47 : decode cX5_isMade 47 = .ok (.iadd, 1) := by decide +kernel
theorem dX5_isMade_48 : decode cX5_isMade 48 = .ok (.aload_n 3, 1) := by decide +kernel
theorem dX5_isMade_49 : decode cX5_isMade 49 = .ok (.invokestatic 31, 3) := by decide +kernel
theorem dX5_isMade_52 : decode cX5_isMade 52 = .ok (.ifCond .eq 5, 3) := by decide +kernel
theorem dX5_isMade_55 : decode cX5_isMade 55 = .ok (.iconst 1, 1) := by decide +kernel
theorem dX5_isMade_56 : decode cX5_isMade 56 = .ok (.ireturn, 1) := by decide +kernel
theorem dX5_isMade_57 : decode cX5_isMade 57 = .ok (.iinc 4 1, 3) := by decide +kernel
theorem dX5_isMade_60 : decode cX5_isMade 60 = .ok (.goto (-43), 3) := by decide +kernel
theorem dX5_isMade_63 : decode cX5_isMade 63 = .ok (.iconst 0, 1) := by decide +kernel
theorem dX5_isMade_64 : decode cX5_isMade 64 = .ok (.ireturn, 1) := by decide +kernel
set_option maxRecDepth 20000 in
theorem ggX5_isWell_X5_sumAt : GoodIn wsX5_isWell wsX5_sumAt := goodIn_r _ [6, 7, 8, 9, 18, 19, 20, 21, 22, 23, 24, 25] (by decide +kernel) (by decide +kernel)
set_option maxRecDepth 20000 in
theorem gX5_isWell_X5_sumAt : GoodIn wsX5_isWell (wsV RX5 35 RX5 yX5_sumAt wsX5_sumAt) := goodIn_app (goodIn_of _ (by decide +kernel)) ggX5_isWell_X5_sumAt
set_option maxRecDepth 20000 in
theorem ggX5_isWell_X5_at : GoodIn wsX5_isWell wsX5_at := goodIn_r _ [13, 14, 9, 18, 19, 20, 21, 22, 23, 24, 25] (by decide +kernel) (by decide +kernel)
set_option maxRecDepth 20000 in
theorem gX5_isWell_X5_at : GoodIn wsX5_isWell (wsV RX5 39 RX5 yX5_at wsX5_at) := goodIn_app (goodIn_of _ (by decide +kernel)) ggX5_isWell_X5_at
set_option maxRecDepth 20000 in
theorem ggX5_isWell_X5_isMade : GoodIn wsX5_isWell wsX5_isMade := goodIn_r _ [17, 15, 16, 5] (by decide +kernel) (by decide +kernel)
set_option maxRecDepth 20000 in
theorem gX5_isWell_X5_isMade : GoodIn wsX5_isWell (va_wsS RX5 31 yX5_isMade wsX5_isMade) := goodIn_app (goodIn_of _ (by decide +kernel)) ggX5_isWell_X5_isMade
theorem dX5_isWell_0 : decode cX5_isWell 0 = .ok (.bipush 10, 2) := by decide +kernel
theorem dX5_isWell_2 : decode cX5_isWell 2 = .ok (.newarray .boolean, 2) := by decide +kernel
theorem dX5_isWell_4 : decode cX5_isWell 4 = .ok (.astore_n 3, 1) := by decide +kernel
theorem dX5_isWell_5 : decode cX5_isWell 5 = .ok (.iconst 0, 1) := by decide +kernel
theorem dX5_isWell_6 : decode cX5_isWell 6 = .ok (.istore 4, 2) := by decide +kernel
theorem dX5_isWell_8 : decode cX5_isWell 8 = .ok (.aload_n 0, 1) := by decide +kernel
theorem dX5_isWell_9 : decode cX5_isWell 9 = .ok (.aload_n 1, 1) := by decide +kernel
theorem dX5_isWell_10 : decode cX5_isWell 10 = .ok (.iconst 0, 1) := by decide +kernel
theorem dX5_isWell_11 : decode cX5_isWell 11 = .ok (.iaload, 1) := by decide +kernel
theorem dX5_isWell_12 : decode cX5_isWell 12 = .ok (.iload_n 2, 1) := by decide +kernel
theorem dX5_isWell_13 : decode cX5_isWell 13 = .ok (.invokevirtual 35, 3) := by decide +kernel
theorem dX5_isWell_16 : decode cX5_isWell 16 = .ok (.istore 5, 2) := by decide +kernel
theorem dX5_isWell_18 : decode cX5_isWell 18 = .ok (.iload 5, 2) := by decide +kernel
theorem dX5_isWell_20 : decode cX5_isWell 20 = .ok (.ifCond .le 7, 3) := by decide +kernel
theorem dX5_isWell_23 : decode cX5_isWell 23 = .ok (.iconst 1, 1) := by decide +kernel
theorem dX5_isWell_24 : decode cX5_isWell 24 = .ok (.goto 4, 3) := by decide +kernel
theorem dX5_isWell_27 : decode cX5_isWell 27 = .ok (.iconst 0, 1) := by decide +kernel
theorem dX5_isWell_28 : decode cX5_isWell 28 = .ok (.istore 6, 2) := by decide +kernel
theorem dX5_isWell_30 : decode cX5_isWell 30 = .ok (.aload_n 1, 1) := by decide +kernel
theorem dX5_isWell_31 : decode cX5_isWell 31 = .ok (.astore 7, 2) := by decide +kernel
theorem dX5_isWell_33 : decode cX5_isWell 33 = .ok (.aload 7, 2) := by decide +kernel
theorem dX5_isWell_35 : decode cX5_isWell 35 = .ok (.arraylength, 1) := by decide +kernel
theorem dX5_isWell_36 : decode cX5_isWell 36 = .ok (.istore 8, 2) := by decide +kernel
theorem dX5_isWell_38 : decode cX5_isWell 38 = .ok (.iconst 0, 1) := by decide +kernel
theorem dX5_isWell_39 : decode cX5_isWell 39 = .ok (.istore 9, 2) := by decide +kernel
theorem dX5_isWell_41 : decode cX5_isWell 41 = .ok (.iload 9, 2) := by decide +kernel
theorem dX5_isWell_43 : decode cX5_isWell 43 = .ok (.iload 8, 2) := by decide +kernel
theorem dX5_isWell_45 : decode cX5_isWell 45 = .ok (.if_icmp .ge 65, 3) := by decide +kernel
theorem dX5_isWell_48 : decode cX5_isWell 48 = .ok (.aload 7, 2) := by decide +kernel
theorem dX5_isWell_50 : decode cX5_isWell 50 = .ok (.iload 9, 2) := by decide +kernel
theorem dX5_isWell_52 : decode cX5_isWell 52 = .ok (.iaload, 1) := by decide +kernel
theorem dX5_isWell_53 : decode cX5_isWell 53 = .ok (.istore 10, 2) := by decide +kernel
theorem dX5_isWell_55 : decode cX5_isWell 55 = .ok (.aload_n 0, 1) := by decide +kernel
theorem dX5_isWell_56 : decode cX5_isWell 56 = .ok (.iload 10, 2) := by decide +kernel
theorem dX5_isWell_58 : decode cX5_isWell 58 = .ok (.invokevirtual 39, 3) := by decide +kernel
theorem dX5_isWell_61 : decode cX5_isWell 61 = .ok (.istore 11, 2) := by decide +kernel
theorem dX5_isWell_63 : decode cX5_isWell 63 = .ok (.iload 11, 2) := by decide +kernel
theorem dX5_isWell_65 : decode cX5_isWell 65 = .ok (.ifCond .le 12, 3) := by decide +kernel
theorem dX5_isWell_68 : decode cX5_isWell 68 = .ok (.aload_n 3, 1) := by decide +kernel
theorem dX5_isWell_69 : decode cX5_isWell 69 = .ok (.iload 11, 2) := by decide +kernel
theorem dX5_isWell_71 : decode cX5_isWell 71 = .ok (.baload, 1) := by decide +kernel
theorem dX5_isWell_72 : decode cX5_isWell 72 = .ok (.ifCond .eq 5, 3) := by decide +kernel
theorem dX5_isWell_75 : decode cX5_isWell 75 = .ok (.iconst 0, 1) := by decide +kernel
theorem dX5_isWell_76 : decode cX5_isWell 76 = .ok (.ireturn, 1) := by decide +kernel
theorem dX5_isWell_77 : decode cX5_isWell 77 = .ok (.aload_n 3, 1) := by decide +kernel
theorem dX5_isWell_78 : decode cX5_isWell 78 = .ok (.iload 11, 2) := by decide +kernel
theorem dX5_isWell_80 : decode cX5_isWell 80 = .ok (.iconst 1, 1) := by decide +kernel
theorem dX5_isWell_81 : decode cX5_isWell 81 = .ok (.bastore, 1) := by decide +kernel
theorem dX5_isWell_82 : decode cX5_isWell 82 = .ok (.iload 5, 2) := by decide +kernel
theorem dX5_isWell_84 : decode cX5_isWell 84 = .ok (.iload 11, 2) := by decide +kernel
theorem dX5_isWell_86 : decode cX5_isWell 86 = .ok (.isub, 1) := by decide +kernel
theorem dX5_isWell_87 : decode cX5_isWell 87 = .ok (.istore 5, 2) := by decide +kernel
theorem dX5_isWell_89 : decode cX5_isWell 89 = .ok (.iload 4, 2) := by decide +kernel
theorem dX5_isWell_91 : decode cX5_isWell 91 = .ok (.iload 11, 2) := by decide +kernel
theorem dX5_isWell_93 : decode cX5_isWell 93 = .ok (.ifCond .ne 7, 3) := by decide +kernel
theorem dX5_isWell_96 : decode cX5_isWell 96 = .ok (.iconst 1, 1) := by decide +kernel
theorem dX5_isWell_97 : decode cX5_isWell 97 = .ok (.goto 4, 3) := by decide +kernel
theorem dX5_isWell_100 : decode cX5_isWell 100 = .ok (.iconst 0, 1) := by decide +kernel
theorem dX5_isWell_101 : decode cX5_isWell 101 = .ok (.iadd, 1) := by decide +kernel
theorem dX5_isWell_102 : decode cX5_isWell 102 = .ok (.istore 4, 2) := by decide +kernel
theorem dX5_isWell_104 : decode cX5_isWell 104 = .ok (.iinc 9 1, 3) := by decide +kernel
theorem dX5_isWell_107 : decode cX5_isWell 107 = .ok (.goto (-66), 3) := by decide +kernel
theorem dX5_isWell_110 : decode cX5_isWell 110 = .ok (.iload 6, 2) := by decide +kernel
theorem dX5_isWell_112 : decode cX5_isWell 112 = .ok (.ifCond .eq 15, 3) := by decide +kernel
theorem dX5_isWell_115 : decode cX5_isWell 115 = .ok (.iload 4, 2) := by decide +kernel
theorem dX5_isWell_117 : decode cX5_isWell 117 = .ok (.iload 5, 2) := by decide +kernel
theorem dX5_isWell_119 : decode cX5_isWell 119 = .ok (.iconst 1, 1) := by decide +kernel
theorem dX5_isWell_120 : decode cX5_isWell 120 = .ok (.aload_n 3, 1) := by decide +kernel
theorem dX5_isWell_121 : decode cX5_isWell 121 = .ok (.invokestatic 31, 3) := by decide +kernel
theorem dX5_isWell_124 : decode cX5_isWell 124 = .ok (.ifCond .eq 7, 3) := by decide +kernel
theorem dX5_isWell_127 : decode cX5_isWell 127 = .ok (.iconst 1, 1) := by decide +kernel
theorem dX5_isWell_128 : decode cX5_isWell 128 = .ok (.goto 4, 3) := by decide +kernel
theorem dX5_isWell_131 : decode cX5_isWell 131 = .ok (.iconst 0, 1) := by decide +kernel
theorem dX5_isWell_132 : decode cX5_isWell 132 = .ok (.ireturn, 1) := by decide +kernel
set_option maxRecDepth 20000 in
theorem ggX5_isWell__X5_corridor : GoodIn wsX5_isWell_ wsX5_corridor := goodIn_r _ [5, 6, 7, 8, 9, 10, 11, 4, 12, 31, 32, 33, 34, 35, 36, 37, 38] (by decide +kernel) (by decide +kernel)
set_option maxRecDepth 20000 in
theorem gX5_isWell__X5_corridor : GoodIn wsX5_isWell_ (wsV RX5 43 RX5 yX5_corridor wsX5_corridor) := goodIn_app (goodIn_of _ (by decide +kernel)) ggX5_isWell__X5_corridor
set_option maxRecDepth 20000 in
theorem ggX5_isWell__X5_isWell : GoodIn wsX5_isWell_ wsX5_isWell := goodIn_r _ [16, 17, 18, 19, 20, 4, 21, 22, 23, 8, 24, 25, 26, 27, 9, 28, 29, 30, 31, 32, 33, 34, 35, 36, 37, 38] (by decide +kernel) (by decide +kernel)
set_option maxRecDepth 20000 in
theorem gX5_isWell__X5_isWell : GoodIn wsX5_isWell_ (wsV RX5 47 RX5 yX5_isWell wsX5_isWell) := goodIn_app (goodIn_of _ (by decide +kernel)) ggX5_isWell__X5_isWell
theorem dX5_isWell__0 : decode cX5_isWell_ 0 = .ok (.aload_n 0, 1) := by decide +kernel
theorem dX5_isWell__1 : decode cX5_isWell_ 1 = .ok (.aload_n 0, 1) := by decide +kernel
theorem dX5_isWell__2 : decode cX5_isWell_ 2 = .ok (.iload_n 1, 1) := by decide +kernel
theorem dX5_isWell__3 : decode cX5_isWell_ 3 = .ok (.iload_n 2, 1) := by decide +kernel
theorem dX5_isWell__4 : decode cX5_isWell_ 4 = .ok (.iconst 0, 1) := by decide +kernel
theorem dX5_isWell__5 : decode cX5_isWell_ 5 = .ok (.invokevirtual 43, 3) := by decide +kernel
theorem dX5_isWell__8 : decode cX5_isWell_ 8 = .ok (.iconst 0, 1) := by decide +kernel
theorem dX5_isWell__9 : decode cX5_isWell_ 9 = .ok (.invokevirtual 47, 3) := by decide +kernel
theorem dX5_isWell__12 : decode cX5_isWell_ 12 = .ok (.ifCond .eq 22, 3) := by decide +kernel
theorem dX5_isWell__15 : decode cX5_isWell_ 15 = .ok (.aload_n 0, 1) := by decide +kernel
theorem dX5_isWell__16 : decode cX5_isWell_ 16 = .ok (.aload_n 0, 1) := by decide +kernel
theorem dX5_isWell__17 : decode cX5_isWell_ 17 = .ok (.iload_n 1, 1) := by decide +kernel
theorem dX5_isWell__18 : decode cX5_isWell_ 18 = .ok (.iload_n 2, 1) := by decide +kernel
theorem dX5_isWell__19 : decode cX5_isWell_ 19 = .ok (.iconst 1, 1) := by decide +kernel
theorem dX5_isWell__20 : decode cX5_isWell_ 20 = .ok (.invokevirtual 43, 3) := by decide +kernel
theorem dX5_isWell__23 : decode cX5_isWell_ 23 = .ok (.iconst 1, 1) := by decide +kernel
theorem dX5_isWell__24 : decode cX5_isWell_ 24 = .ok (.invokevirtual 47, 3) := by decide +kernel
theorem dX5_isWell__27 : decode cX5_isWell_ 27 = .ok (.ifCond .eq 7, 3) := by decide +kernel
theorem dX5_isWell__30 : decode cX5_isWell_ 30 = .ok (.iconst 1, 1) := by decide +kernel
theorem dX5_isWell__31 : decode cX5_isWell_ 31 = .ok (.goto 4, 3) := by decide +kernel
theorem dX5_isWell__34 : decode cX5_isWell_ 34 = .ok (.iconst 0, 1) := by decide +kernel
theorem dX5_isWell__35 : decode cX5_isWell_ 35 = .ok (.ireturn, 1) := by decide +kernel
set_option maxRecDepth 20000 in
theorem ggX5_can_X5_isWell_ : GoodIn wsX5_can wsX5_isWell_ := goodIn_r _ [6, 7, 8, 9, 5, 10, 11, 12, 13, 1, 14, 15, 16, 17, 18, 19, 20, 21, 22, 23, 24, 25, 26, 27, 28, 29, 30, 31, 32, 33, 34, 35, 36, 37, 38, 39, 40, 41, 42] (by decide +kernel) (by decide +kernel)
set_option maxRecDepth 20000 in
theorem gX5_can_X5_isWell_ : GoodIn wsX5_can (wsV RX5 51 RX5 yX5_isWell_ wsX5_isWell_) := goodIn_app (goodIn_of _ (by decide +kernel)) ggX5_can_X5_isWell_
theorem dX5_can_0 : decode cX5_can 0 = .ok (.iconst 0, 1) := by decide +kernel
theorem dX5_can_1 : decode cX5_can 1 = .ok (.istore_n 3, 1) := by decide +kernel
theorem dX5_can_2 : decode cX5_can 2 = .ok (.aload_n 0, 1) := by decide +kernel
theorem dX5_can_3 : decode cX5_can 3 = .ok (.getfield 18, 3) := by decide +kernel
theorem dX5_can_6 : decode cX5_can 6 = .ok (.iload_n 2, 1) := by decide +kernel
theorem dX5_can_7 : decode cX5_can 7 = .ok (.aaload, 1) := by decide +kernel
theorem dX5_can_8 : decode cX5_can 8 = .ok (.iload_n 1, 1) := by decide +kernel
theorem dX5_can_9 : decode cX5_can 9 = .ok (.iaload, 1) := by decide +kernel
theorem dX5_can_10 : decode cX5_can 10 = .ok (.ifCond .eq 5, 3) := by decide +kernel
theorem dX5_can_13 : decode cX5_can 13 = .ok (.iconst 0, 1) := by decide +kernel
theorem dX5_can_14 : decode cX5_can 14 = .ok (.ireturn, 1) := by decide +kernel
theorem dX5_can_15 : decode cX5_can 15 = .ok (.bipush 9, 2) := by decide +kernel
theorem dX5_can_17 : decode cX5_can 17 = .ok (.istore 4, 2) := by decide +kernel
theorem dX5_can_19 : decode cX5_can 19 = .ok (.iload 4, 2) := by decide +kernel
theorem dX5_can_21 : decode cX5_can 21 = .ok (.ifCond .le 35, 3) := by decide +kernel
theorem dX5_can_24 : decode cX5_can 24 = .ok (.aload_n 0, 1) := by decide +kernel
theorem dX5_can_25 : decode cX5_can 25 = .ok (.getfield 18, 3) := by decide +kernel
theorem dX5_can_28 : decode cX5_can 28 = .ok (.iload_n 2, 1) := by decide +kernel
theorem dX5_can_29 : decode cX5_can 29 = .ok (.aaload, 1) := by decide +kernel
theorem dX5_can_30 : decode cX5_can 30 = .ok (.iload_n 1, 1) := by decide +kernel
theorem dX5_can_31 : decode cX5_can 31 = .ok (.iload 4, 2) := by decide +kernel
theorem dX5_can_33 : decode cX5_can 33 = .ok (.iastore, 1) := by decide +kernel
theorem dX5_can_34 : decode cX5_can 34 = .ok (.aload_n 0, 1) := by decide +kernel
theorem dX5_can_35 : decode cX5_can 35 = .ok (.iload_n 1, 1) := by decide +kernel
theorem dX5_can_36 : decode cX5_can 36 = .ok (.iload_n 2, 1) := by decide +kernel
theorem dX5_can_37 : decode cX5_can 37 = .ok (.invokevirtual 51, 3) := by decide +kernel
theorem dX5_can_40 : decode cX5_can 40 = .ok (.ifCond .eq 10, 3) := by decide +kernel
theorem dX5_can_43 : decode cX5_can 43 = .ok (.iload_n 3, 1) := by decide +kernel
theorem dX5_can_44 : decode cX5_can 44 = .ok (.iconst 1, 1) := by decide +kernel
theorem dX5_can_45 : decode cX5_can 45 = .ok (.iload 4, 2) := by decide +kernel
theorem dX5_can_47 : decode cX5_can 47 = .ok (.ishl, 1) := by decide +kernel
theorem dX5_can_48 : decode cX5_can 48 = .ok (.iadd, 1) := by decide +kernel
theorem dX5_can_49 : decode cX5_can 49 = .ok (.istore_n 3, 1) := by decide +kernel
theorem dX5_can_50 : decode cX5_can 50 = .ok (.iinc 4 (-1), 3) := by decide +kernel
theorem dX5_can_53 : decode cX5_can 53 = .ok (.goto (-34), 3) := by decide +kernel
theorem dX5_can_56 : decode cX5_can 56 = .ok (.aload_n 0, 1) := by decide +kernel
theorem dX5_can_57 : decode cX5_can 57 = .ok (.getfield 18, 3) := by decide +kernel
theorem dX5_can_60 : decode cX5_can 60 = .ok (.iload_n 2, 1) := by decide +kernel
theorem dX5_can_61 : decode cX5_can 61 = .ok (.aaload, 1) := by decide +kernel
theorem dX5_can_62 : decode cX5_can 62 = .ok (.iload_n 1, 1) := by decide +kernel
theorem dX5_can_63 : decode cX5_can 63 = .ok (.iconst 0, 1) := by decide +kernel
theorem dX5_can_64 : decode cX5_can 64 = .ok (.iastore, 1) := by decide +kernel
theorem dX5_can_65 : decode cX5_can 65 = .ok (.iload_n 3, 1) := by decide +kernel
theorem dX5_can_66 : decode cX5_can 66 = .ok (.ireturn, 1) := by decide +kernel
theorem dX5_many_0 : decode cX5_many 0 = .ok (.iconst 0, 1) := by decide +kernel
theorem dX5_many_1 : decode cX5_many 1 = .ok (.istore_n 1, 1) := by decide +kernel
theorem dX5_many_2 : decode cX5_many 2 = .ok (.iconst 1, 1) := by decide +kernel
theorem dX5_many_3 : decode cX5_many 3 = .ok (.istore_n 2, 1) := by decide +kernel
theorem dX5_many_4 : decode cX5_many 4 = .ok (.iload_n 2, 1) := by decide +kernel
theorem dX5_many_5 : decode cX5_many 5 = .ok (.bipush 10, 2) := by decide +kernel
theorem dX5_many_7 : decode cX5_many 7 = .ok (.if_icmp .ge 17, 3) := by decide +kernel
theorem dX5_many_10 : decode cX5_many 10 = .ok (.iload_n 1, 1) := by decide +kernel
theorem dX5_many_11 : decode cX5_many 11 = .ok (.iload_n 0, 1) := by decide +kernel
theorem dX5_many_12 : decode cX5_many 12 = .ok (.iload_n 2, 1) := by decide +kernel
theorem dX5_many_13 : decode cX5_many 13 = .ok (.ishr, 1) := by decide +kernel
theorem dX5_many_14 : decode cX5_many 14 = .ok (.iconst 1, 1) := by decide +kernel
theorem dX5_many_15 : decode cX5_many 15 = .ok (.iand, 1) := by decide +kernel
theorem dX5_many_16 : decode cX5_many 16 = .ok (.iadd, 1) := by decide +kernel
theorem dX5_many_17 : decode cX5_many 17 = .ok (.istore_n 1, 1) := by decide +kernel
theorem dX5_many_18 : decode cX5_many 18 = .ok (.iinc 2 1, 3) := by decide +kernel
theorem dX5_many_21 : decode cX5_many 21 = .ok (.goto (-17), 3) := by decide +kernel
theorem dX5_many_24 : decode cX5_many 24 = .ok (.iload_n 1, 1) := by decide +kernel
theorem dX5_many_25 : decode cX5_many 25 = .ok (.ireturn, 1) := by decide +kernel
set_option maxRecDepth 20000 in
theorem ggX5_force_X5_can : GoodIn wsX5_force wsX5_can := goodIn_r _ [8, 3, 9, 10, 11, 7, 12, 13, 14, 15, 16, 17, 2, 1, 18, 19, 20, 21, 22, 23, 24, 25, 26, 27, 28, 29, 30, 31, 32, 33, 34, 35, 36, 37, 38, 45, 46, 47, 48, 49, 50, 51, 52] (by decide +kernel) (by decide +kernel)
set_option maxRecDepth 20000 in
theorem gX5_force_X5_can : GoodIn wsX5_force (wsV RX5 74 RX5 yX5_can wsX5_can) := goodIn_app (goodIn_of _ (by decide +kernel)) ggX5_force_X5_can
set_option maxRecDepth 20000 in
theorem ggX5_force_X5_many : GoodIn wsX5_force wsX5_many := goodIn_r _ [41] (by decide +kernel) (by decide +kernel)
set_option maxRecDepth 20000 in
theorem gX5_force_X5_many : GoodIn wsX5_force (va_wsS RX5 77 yX5_many wsX5_many) := goodIn_app (goodIn_of _ (by decide +kernel)) ggX5_force_X5_many
set_option maxRecDepth 20000 in
theorem ggX5_force_X5_force : GoodIn wsX5_force wsX5_force := goodIn_r _ [0, 1, 2, 3, 4, 5, 6, 7, 8, 9, 10, 11, 12, 13, 14, 15, 16, 17, 18, 19, 20, 21, 22, 23, 24, 25, 26, 27, 28, 29, 30, 31, 32, 33, 34, 35, 36, 37, 38, 39, 40, 41, 42, 43, 44, 45, 46, 47, 48, 49, 50, 51, 52] (by decide +kernel) (by decide +kernel)
set_option maxRecDepth 20000 in
theorem gX5_force_X5_force : GoodIn wsX5_force (wsV RX5 80 RX5 yX5_force wsX5_force) := goodIn_app (goodIn_of _ (by decide +kernel)) ggX5_force_X5_force
theorem dX5_force_0 : decode cX5_force 0 = .ok (.iconst 0, 1) := by decide +kernel
theorem dX5_force_1 : decode cX5_force 1 = .ok (.istore_n 1, 1) := by decide +kernel
theorem dX5_force_2 : decode cX5_force 2 = .ok (.iload_n 1, 1) := by decide +kernel
theorem dX5_force_3 : decode cX5_force 3 = .ok (.aload_n 0, 1) := by decide +kernel
theorem dX5_force_4 : decode cX5_force 4 = .ok (.getfield 7, 3) := by decide +kernel
theorem dX5_force_7 : decode cX5_force 7 = .ok (.aload_n 0, 1) := by decide +kernel
theorem dX5_force_8 : decode cX5_force 8 = .ok (.getfield 13, 3) := by decide +kernel
theorem dX5_force_11 : decode cX5_force 11 = .ok (.imul, 1) := by decide +kernel
theorem dX5_force_12 : decode cX5_force 12 = .ok (.if_icmp .ge 84, 3) := by decide +kernel
theorem dX5_force_15 : decode cX5_force 15 = .ok (.aload_n 0, 1) := by decide +kernel
theorem dX5_force_16 : decode cX5_force 16 = .ok (.iload_n 1, 1) := by decide +kernel
theorem dX5_force_17 : decode cX5_force 17 = .ok (.aload_n 0, 1) := by decide +kernel
theorem dX5_force_18 : decode cX5_force 18 = .ok (.getfield 7, 3) := by decide +kernel
theorem dX5_force_21 : decode cX5_force 21 = .ok (.irem, 1) := by decide +kernel
theorem dX5_force_22 : decode cX5_force 22 = .ok (.iload_n 1, 1) := by decide +kernel
theorem dX5_force_23 : decode cX5_force 23 = .ok (.aload_n 0, 1) := by decide +kernel
theorem dX5_force_24 : decode cX5_force 24 = .ok (.getfield 7, 3) := by decide +kernel
theorem dX5_force_27 : decode cX5_force 27 = .ok (.idiv, 1) := by decide +kernel
theorem dX5_force_28 : decode cX5_force 28 = .ok (.invokevirtual 74, 3) := by decide +kernel
theorem dX5_force_31 : decode cX5_force 31 = .ok (.istore_n 2, 1) := by decide +kernel
theorem dX5_force_32 : decode cX5_force 32 = .ok (.iload_n 2, 1) := by decide +kernel
theorem dX5_force_33 : decode cX5_force 33 = .ok (.invokestatic 77, 3) := by decide +kernel
theorem dX5_force_36 : decode cX5_force 36 = .ok (.iconst 1, 1) := by decide +kernel
theorem dX5_force_37 : decode cX5_force 37 = .ok (.if_icmp .eq 6, 3) := by decide +kernel
theorem dX5_force_40 : decode cX5_force 40 = .ok (.goto 50, 3) := by decide +kernel
theorem dX5_force_43 : decode cX5_force 43 = .ok (.iconst 1, 1) := by decide +kernel
theorem dX5_force_44 : decode cX5_force 44 = .ok (.istore_n 3, 1) := by decide +kernel
theorem dX5_force_45 : decode cX5_force 45 = .ok (.iload_n 3, 1) := by decide +kernel
theorem dX5_force_46 : decode cX5_force 46 = .ok (.bipush 10, 2) := by decide +kernel
theorem dX5_force_48 : decode cX5_force 48 = .ok (.if_icmp .ge 35, 3) := by decide +kernel
theorem dX5_force_51 : decode cX5_force 51 = .ok (.iload_n 2, 1) := by decide +kernel
theorem dX5_force_52 : decode cX5_force 52 = .ok (.iconst 1, 1) := by decide +kernel
theorem dX5_force_53 : decode cX5_force 53 = .ok (.iload_n 3, 1) := by decide +kernel
theorem dX5_force_54 : decode cX5_force 54 = .ok (.ishl, 1) := by decide +kernel
theorem dX5_force_55 : decode cX5_force 55 = .ok (.if_icmp .ne 22, 3) := by decide +kernel
theorem dX5_force_58 : decode cX5_force 58 = .ok (.aload_n 0, 1) := by decide +kernel
theorem dX5_force_59 : decode cX5_force 59 = .ok (.getfield 18, 3) := by decide +kernel
theorem dX5_force_62 : decode cX5_force 62 = .ok (.iload_n 1, 1) := by decide +kernel
theorem dX5_force_63 : decode cX5_force 63 = .ok (.aload_n 0, 1) := by decide +kernel
theorem dX5_force_64 : decode cX5_force 64 = .ok (.getfield 7, 3) := by decide +kernel
theorem dX5_force_67 : decode cX5_force 67 = .ok (.idiv, 1) := by decide +kernel
theorem dX5_force_68 : decode cX5_force 68 = .ok (.aaload, 1) := by decide +kernel
theorem dX5_force_69 : decode cX5_force 69 = .ok (.iload_n 1, 1) := by decide +kernel
theorem dX5_force_70 : decode cX5_force 70 = .ok (.aload_n 0, 1) := by decide +kernel
theorem dX5_force_71 : decode cX5_force 71 = .ok (.getfield 7, 3) := by decide +kernel
theorem dX5_force_74 : decode cX5_force 74 = .ok (.irem, 1) := by decide +kernel
theorem dX5_force_75 : decode cX5_force 75 = .ok (.iload_n 3, 1) := by decide +kernel
theorem dX5_force_76 : decode cX5_force 76 = .ok (.iastore, 1) := by decide +kernel
theorem dX5_force_77 : decode cX5_force 77 = .ok (.iinc 3 1, 3) := by decide +kernel
theorem dX5_force_80 : decode cX5_force 80 = .ok (.goto (-35), 3) := by decide +kernel
theorem dX5_force_83 : decode cX5_force 83 = .ok (.iconst 1, 1) := by decide +kernel
theorem dX5_force_84 : decode cX5_force 84 = .ok (.aload_n 0, 1) := by decide +kernel
theorem dX5_force_85 : decode cX5_force 85 = .ok (.invokevirtual 80, 3) := by decide +kernel
theorem dX5_force_88 : decode cX5_force 88 = .ok (.iadd, 1) := by decide +kernel
theorem dX5_force_89 : decode cX5_force 89 = .ok (.ireturn, 1) := by decide +kernel
theorem dX5_force_90 : decode cX5_force 90 = .ok (.iinc 1 1, 3) := by decide +kernel
theorem dX5_force_93 : decode cX5_force 93 = .ok (.goto (-91), 3) := by decide +kernel
theorem dX5_force_96 : decode cX5_force 96 = .ok (.iconst 0, 1) := by decide +kernel
theorem dX5_force_97 : decode cX5_force 97 = .ok (.ireturn, 1) := by decide +kernel
set_option maxRecDepth 20000 in
theorem ggX5_isSame_X4_stone : GoodIn wsX5_isSame wsX4_stone := goodIn_ca (goodIn_r _ [9, 10, 11, 12, 13, 8, 14, 15, 16, 17, 18, 19, 20, 21, 22, 23, 24, 25, 26, 27, 28, 29, 30, 31, 32, 33, 34, 208, 209, 210, 211, 212, 213, 214] (by decide +kernel) (by decide +kernel)) (goodIn_sub (fun _ h => List.mem_cons_of_mem _ (List.mem_append_right _ h)) (by decide +kernel))
set_option maxRecDepth 20000 in
theorem gX5_isSame_X4_stone : GoodIn wsX5_isSame (wsV RX5 84 RX4 yX4_stone wsX4_stone) := goodIn_app (goodIn_of _ (by decide +kernel)) ggX5_isSame_X4_stone
set_option maxRecDepth 20000 in
theorem ggX5_isSame_X5_corridor : GoodIn wsX5_isSame wsX5_corridor := goodIn_r _ [39, 1, 3, 2, 4, 40, 41, 38, 42, 200, 201, 202, 203, 204, 205, 206, 207] (by decide +kernel) (by decide +kernel)
set_option maxRecDepth 20000 in
theorem gX5_isSame_X5_corridor : GoodIn wsX5_isSame (wsV RX5 43 RX5 yX5_corridor wsX5_corridor) := goodIn_app (goodIn_of _ (by decide +kernel)) ggX5_isSame_X5_corridor
set_option maxRecDepth 20000 in
theorem ggX5_isSame_X5_at : GoodIn wsX5_isSame wsX5_at := goodIn_r _ [46, 4, 2, 200, 201, 202, 203, 204, 205, 206, 207] (by decide +kernel) (by decide +kernel)
set_option maxRecDepth 20000 in
theorem gX5_isSame_X5_at : GoodIn wsX5_isSame (wsV RX5 39 RX5 yX5_at wsX5_at) := goodIn_app (goodIn_of _ (by decide +kernel)) ggX5_isSame_X5_at
set_option maxRecDepth 20000 in
theorem ggX5_isSame_X5_isWell : GoodIn wsX5_isSame wsX5_isWell := goodIn_r _ [50, 51, 52, 53, 54, 38, 55, 56, 57, 2, 43, 44, 45, 46, 4, 58, 59, 60, 200, 201, 202, 203, 204, 205, 206, 207] (by decide +kernel) (by decide +kernel)
set_option maxRecDepth 20000 in
theorem gX5_isSame_X5_isWell : GoodIn wsX5_isSame (wsV RX5 47 RX5 yX5_isWell wsX5_isWell) := goodIn_app (goodIn_of _ (by decide +kernel)) ggX5_isSame_X5_isWell
set_option maxRecDepth 20000 in
theorem ggX5_isSame_X5_sumAt : GoodIn wsX5_isSame wsX5_sumAt := goodIn_r _ [55, 56, 57, 2, 200, 201, 202, 203, 204, 205, 206, 207] (by decide +kernel) (by decide +kernel)
set_option maxRecDepth 20000 in
theorem gX5_isSame_X5_sumAt : GoodIn wsX5_isSame (wsV RX5 35 RX5 yX5_sumAt wsX5_sumAt) := goodIn_app (goodIn_of _ (by decide +kernel)) ggX5_isSame_X5_sumAt
set_option maxRecDepth 20000 in
theorem ggX5_isSame_X4_corridor : GoodIn wsX5_isSame wsX4_corridor := goodIn_ca (goodIn_r _ [64, 15, 16, 10, 11, 12, 13, 8, 14, 17, 18, 19, 20, 21, 22, 23, 24, 25, 26, 27, 65, 66, 67, 68, 69, 70, 71, 72, 73, 74, 75, 76, 77, 78, 79, 80, 33, 34, 81, 82, 83, 84, 85, 86, 87, 88, 89, 90, 91, 92, 93, 94, 95, 96, 97, 98, 99, 100, 101, 102, 103, 104, 105, 106, 107, 108, 109, 208, 209, 210, 211, 212, 213, 214, 215, 216, 217, 218, 219, 220, 221, 222, 223, 224] (by decide +kernel) (by decide +kernel)) (goodIn_sub (fun _ h => List.mem_cons_of_mem _ (List.mem_append_right _ h)) (by decide +kernel))
set_option maxRecDepth 20000 in
theorem gX5_isSame_X4_corridor : GoodIn wsX5_isSame (wsV RX5 89 RX4 yX4_corridor wsX4_corridor) := goodIn_app (goodIn_of _ (by decide +kernel)) ggX5_isSame_X4_corridor
set_option maxRecDepth 20000 in
theorem ggX5_isSame_X5_can : GoodIn wsX5_isSame wsX5_can := goodIn_r _ [113, 4, 114, 115, 116, 38, 117, 35, 36, 37, 39, 1, 3, 2, 40, 41, 42, 47, 48, 49, 50, 51, 52, 53, 54, 55, 56, 57, 43, 44, 45, 46, 58, 59, 60, 200, 201, 202, 203, 204, 205, 206, 207] (by decide +kernel) (by decide +kernel)
set_option maxRecDepth 20000 in
theorem gX5_isSame_X5_can : GoodIn wsX5_isSame (wsV RX5 74 RX5 yX5_can wsX5_can) := goodIn_app (goodIn_of _ (by decide +kernel)) ggX5_isSame_X5_can
set_option maxRecDepth 20000 in
theorem ggX5_isSame_X5_many : GoodIn wsX5_isSame wsX5_many := goodIn_r _ [120] (by decide +kernel) (by decide +kernel)
set_option maxRecDepth 20000 in
theorem gX5_isSame_X5_many : GoodIn wsX5_isSame (va_wsS RX5 77 yX5_many wsX5_many) := goodIn_app (goodIn_of _ (by decide +kernel)) ggX5_isSame_X5_many
set_option maxRecDepth 20000 in
theorem ggX5_isSame_X4_can : GoodIn wsX5_isSame wsX4_can := goodIn_ca (goodIn_r _ [124, 10, 11, 12, 13, 8, 14, 15, 16, 17, 18, 19, 20, 21, 22, 23, 24, 25, 26, 27, 125, 126, 127, 128, 70, 69, 129, 130, 131, 132, 32, 33, 34, 133, 134, 135, 74, 136, 76, 85, 78, 77, 79, 80, 92, 81, 82, 83, 84, 86, 87, 93, 94, 95, 96, 97, 98, 99, 100, 101, 102, 103, 104, 105, 106, 107, 108, 109, 208, 209, 210, 211, 212, 213, 214, 215, 216, 217, 218, 219, 220, 221, 222, 223, 224] (by decide +kernel) (by decide +kernel)) (goodIn_sub (fun _ h => List.mem_cons_of_mem _ (List.mem_append_right _ h)) (by decide +kernel))
set_option maxRecDepth 20000 in
theorem gX5_isSame_X4_can : GoodIn wsX5_isSame (wsV RX5 92 RX4 yX4_can wsX4_can) := goodIn_app (goodIn_of _ (by decide +kernel)) ggX5_isSame_X4_can
set_option maxRecDepth 20000 in
theorem ggX5_isSame_X4_count : GoodIn wsX5_isSame wsX4_count := goodIn_ca (goodIn_r _ [140, 15, 16, 10, 141, 142, 143, 20, 144, 26, 70, 69, 22, 23, 24, 25, 27, 145, 146, 147, 148, 149, 150, 151, 152, 32, 33, 8, 34, 153, 154, 155, 156, 157, 158, 159, 160, 161, 162, 163, 74, 164, 76, 165, 166, 167, 168, 169, 170, 171, 172, 78, 173, 174, 175, 176, 177, 89, 90, 91, 77, 79, 92, 85, 80, 81, 82, 83, 84, 86, 87, 93, 94, 95, 96, 97, 98, 99, 100, 101, 102, 103, 104, 105, 106, 107, 108, 109, 178, 179, 180, 181, 129, 130, 131, 132, 182, 126, 127, 128, 133, 134, 135, 136, 183, 208, 209, 210, 211, 212, 213, 214, 215, 216, 217, 218, 219, 220, 221, 222, 223, 224] (by decide +kernel) (by decide +kernel)) (goodIn_sub (fun _ h => List.mem_cons_of_mem _ (List.mem_append_right _ h)) (by decide +kernel))
set_option maxRecDepth 20000 in
theorem gX5_isSame_X4_count : GoodIn wsX5_isSame (wsV RX5 94 RX4 yX4_count wsX4_count) := goodIn_app (goodIn_of _ (by decide +kernel)) ggX5_isSame_X4_count
set_option maxRecDepth 20000 in
theorem ggX5_isSame_X4_next : GoodIn wsX5_isSame wsX4_next := goodIn_r _ [187, 10, 188, 189, 190, 20, 191, 22, 23, 24, 25, 26, 27, 182, 126, 127, 128, 70, 69, 129, 130, 131, 132, 32, 33, 8, 34, 133, 134, 135, 74, 136, 76, 85, 78, 77, 79, 80, 92, 81, 82, 83, 84, 86, 87, 93, 94, 95, 96, 97, 98, 99, 100, 101, 102, 103, 104, 105, 106, 107, 108, 109, 183, 208, 209, 210, 211, 212, 213, 214, 215, 216, 217, 218, 219, 220, 221, 222, 223, 224] (by decide +kernel) (by decide +kernel)
set_option maxRecDepth 20000 in
theorem gX5_isSame_X4_next : GoodIn wsX5_isSame (wsV RX5 97 RX4 yX4_next wsX4_next) := goodIn_app (goodIn_of _ (by decide +kernel)) ggX5_isSame_X4_next
set_option maxRecDepth 20000 in
theorem ggX5_isSame_X4_mean : GoodIn wsX5_isSame wsX4_mean := goodIn_r _ [195, 10, 196, 197, 198, 20, 199, 22, 23, 24, 25, 26, 27, 129, 130, 131, 132, 32, 33, 8, 34, 182, 126, 127, 128, 70, 69, 133, 134, 135, 74, 136, 76, 85, 78, 77, 79, 80, 92, 81, 82, 83, 84, 86, 87, 93, 94, 95, 96, 97, 98, 99, 100, 101, 102, 103, 104, 105, 106, 107, 108, 109, 183, 208, 209, 210, 211, 212, 213, 214, 215, 216, 217, 218, 219, 220, 221, 222, 223, 224] (by decide +kernel) (by decide +kernel)
set_option maxRecDepth 20000 in
theorem gX5_isSame_X4_mean : GoodIn wsX5_isSame (wsV RX5 100 RX4 yX4_mean wsX4_mean) := goodIn_app (goodIn_of _ (by decide +kernel)) ggX5_isSame_X4_mean
theorem dX5_isSame_0 : decode cX5_isSame 0 = .ok (.bipush 9, 2) := by decide +kernel
theorem dX5_isSame_2 : decode cX5_isSame 2 = .ok (.newarray .int, 2) := by decide +kernel
theorem dX5_isSame_4 : decode cX5_isSame 4 = .ok (.dup, 1) := by decide +kernel
theorem dX5_isSame_5 : decode cX5_isSame 5 = .ok (.iconst 0, 1) := by decide +kernel
theorem dX5_isSame_6 : decode cX5_isSame 6 = .ok (.aload_n 0, 1) := by decide +kernel
theorem dX5_isSame_7 : decode cX5_isSame 7 = .ok (.getfield 7, 3) := by decide +kernel
theorem dX5_isSame_10 : decode cX5_isSame 10 = .ok (.aload_n 0, 1) := by decide +kernel
theorem dX5_isSame_11 : decode cX5_isSame 11 = .ok (.getfield 13, 3) := by decide +kernel
theorem dX5_isSame_14 : decode cX5_isSame 14 = .ok (.imul, 1) := by decide +kernel
theorem dX5_isSame_15 : decode cX5_isSame 15 = .ok (.iastore, 1) := by decide +kernel
theorem dX5_isSame_16 : decode cX5_isSame 16 = .ok (.dup, 1) := by decide +kernel
theorem dX5_isSame_17 : decode cX5_isSame 17 = .ok (.iconst 1, 1) := by decide +kernel
theorem dX5_isSame_18 : decode cX5_isSame 18 = .ok (.aload_n 0, 1) := by decide +kernel
theorem dX5_isSame_19 : decode cX5_isSame 19 = .ok (.getfield 7, 3) := by decide +kernel
theorem dX5_isSame_22 : decode cX5_isSame 22 = .ok (.iastore, 1) := by decide +kernel
theorem dX5_isSame_23 : decode cX5_isSame 23 = .ok (.dup, 1) := by decide +kernel
theorem dX5_isSame_24 : decode cX5_isSame 24 = .ok (.iconst 2, 1) := by decide +kernel
theorem dX5_isSame_25 : decode cX5_isSame 25 = .ok (.iconst 0, 1) := by decide +kernel
theorem dX5_isSame_26 : decode cX5_isSame 26 = .ok (.iastore, 1) := by decide +kernel
theorem dX5_isSame_27 : decode cX5_isSame 27 = .ok (.dup, 1) := by decide +kernel
theorem dX5_isSame_28 : decode cX5_isSame 28 = .ok (.iconst 3, 1) := by decide +kernel
theorem dX5_isSame_29 : decode cX5_isSame 29 = .ok (.iconst 0, 1) := by decide +kernel
theorem dX5_isSame_30 : decode cX5_isSame 30 = .ok (.iastore, 1) := by decide +kernel
theorem dX5_isSame_31 : decode cX5_isSame 31 = .ok (.dup, 1) := by decide +kernel
theorem dX5_isSame_32 : decode cX5_isSame 32 = .ok (.iconst 4, 1) := by decide +kernel
theorem dX5_isSame_33 : decode cX5_isSame 33 = .ok (.iconst 0, 1) := by decide +kernel
theorem dX5_isSame_34 : decode cX5_isSame 34 = .ok (.iastore, 1) := by decide +kernel
theorem dX5_isSame_35 : decode cX5_isSame 35 = .ok (.dup, 1) := by decide +kernel
theorem dX5_isSame_36 : decode cX5_isSame 36 = .ok (.iconst 5, 1) := by decide +kernel
theorem dX5_isSame_37 : decode cX5_isSame 37 = .ok (.iconst 0, 1) := by decide +kernel
theorem dX5_isSame_38 : decode cX5_isSame 38 = .ok (.iastore, 1) := by decide +kernel
theorem dX5_isSame_39 : decode cX5_isSame 39 = .ok (.dup, 1) := by decide +kernel
theorem dX5_isSame_40 : decode cX5_isSame 40 = .ok (.bipush 6, 2) := by decide +kernel
theorem dX5_isSame_42 : decode cX5_isSame 42 = .ok (.iconst 0, 1) := by decide +kernel
theorem dX5_isSame_43 : decode cX5_isSame 43 = .ok (.iastore, 1) := by decide +kernel
theorem dX5_isSame_44 : decode cX5_isSame 44 = .ok (.dup, 1) := by decide +kernel
theorem dX5_isSame_45 : decode cX5_isSame 45 = .ok (.bipush 7, 2) := by decide +kernel
theorem dX5_isSame_47 : decode cX5_isSame 47 = .ok (.iconst 0, 1) := by decide +kernel
theorem dX5_isSame_48 : decode cX5_isSame 48 = .ok (.iastore, 1) := by decide +kernel
theorem dX5_isSame_49 : decode cX5_isSame 49 = .ok (.dup, 1) := by decide +kernel
theorem dX5_isSame_50 : decode cX5_isSame 50 = .ok (.bipush 8, 2) := by decide +kernel
theorem dX5_isSame_52 : decode cX5_isSame 52 = .ok (.iconst 0, 1) := by decide +kernel
theorem dX5_isSame_53 : decode cX5_isSame 53 = .ok (.iastore, 1) := by decide +kernel
theorem dX5_isSame_54 : decode cX5_isSame 54 = .ok (.astore_n 2, 1) := by decide +kernel
theorem dX5_isSame_55 : decode cX5_isSame 55 = .ok (.iconst 0, 1) := by decide +kernel
theorem dX5_isSame_56 : decode cX5_isSame 56 = .ok (.istore_n 3, 1) := by decide +kernel
theorem dX5_isSame_57 : decode cX5_isSame 57 = .ok (.iconst 0, 1) := by decide +kernel
theorem dX5_isSame_58 : decode cX5_isSame 58 = .ok (.istore 4, 2) := by decide +kernel
theorem dX5_isSame_60 : decode cX5_isSame 60 = .ok (.iconst (-1), 1) := by decide +kernel
theorem dX5_isSame_61 : decode cX5_isSame 61 = .ok (.istore 5, 2) := by decide +kernel
theorem dX5_isSame_63 : decode cX5_isSame 63 = .ok (.bipush 99, 2) := by decide +kernel
theorem dX5_isSame_65 : decode cX5_isSame 65 = .ok (.istore 6, 2) := by decide +kernel
theorem dX5_isSame_67 : decode cX5_isSame 67 = .ok (.iconst 0, 1) := by decide +kernel
theorem dX5_isSame_68 : decode cX5_isSame 68 = .ok (.istore 7, 2) := by decide +kernel
theorem dX5_isSame_70 : decode cX5_isSame 70 = .ok (.iload 7, 2) := by decide +kernel
theorem dX5_isSame_72 : decode cX5_isSame 72 = .ok (.aload_n 0, 1) := by decide +kernel
theorem dX5_isSame_73 : decode cX5_isSame 73 = .ok (.getfield 7, 3) := by decide +kernel
theorem dX5_isSame_76 : decode cX5_isSame 76 = .ok (.aload_n 0, 1) := by decide +kernel
theorem dX5_isSame_77 : decode cX5_isSame 77 = .ok (.getfield 13, 3) := by decide +kernel
theorem dX5_isSame_80 : decode cX5_isSame 80 = .ok (.imul, 1) := by decide +kernel
theorem dX5_isSame_81 : decode cX5_isSame 81 = .ok (.if_icmp .ge 518, 3) := by decide +kernel
theorem dX5_isSame_84 : decode cX5_isSame 84 = .ok (.iload 7, 2) := by decide +kernel
theorem dX5_isSame_86 : decode cX5_isSame 86 = .ok (.aload_n 0, 1) := by decide +kernel
theorem dX5_isSame_87 : decode cX5_isSame 87 = .ok (.getfield 7, 3) := by decide +kernel
theorem dX5_isSame_90 : decode cX5_isSame 90 = .ok (.irem, 1) := by decide +kernel
theorem dX5_isSame_91 : decode cX5_isSame 91 = .ok (.istore 8, 2) := by decide +kernel
theorem dX5_isSame_93 : decode cX5_isSame 93 = .ok (.iload 7, 2) := by decide +kernel
theorem dX5_isSame_95 : decode cX5_isSame 95 = .ok (.aload_n 0, 1) := by decide +kernel
theorem dX5_isSame_96 : decode cX5_isSame 96 = .ok (.getfield 7, 3) := by decide +kernel
theorem dX5_isSame_99 : decode cX5_isSame 99 = .ok (.idiv, 1) := by decide +kernel
theorem dX5_isSame_100 : decode cX5_isSame 100 = .ok (.istore 9, 2) := by decide +kernel
theorem dX5_isSame_102 : decode cX5_isSame 102 = .ok (.aload_n 1, 1) := by decide +kernel
theorem dX5_isSame_103 : decode cX5_isSame 103 = .ok (.iload 7, 2) := by decide +kernel
theorem dX5_isSame_105 : decode cX5_isSame 105 = .ok (.invokevirtual 84, 3) := by decide +kernel
theorem dX5_isSame_108 : decode cX5_isSame 108 = .ok (.aload_n 0, 1) := by decide +kernel
theorem dX5_isSame_109 : decode cX5_isSame 109 = .ok (.getfield 18, 3) := by decide +kernel
theorem dX5_isSame_112 : decode cX5_isSame 112 = .ok (.iload 9, 2) := by decide +kernel
theorem dX5_isSame_114 : decode cX5_isSame 114 = .ok (.aaload, 1) := by decide +kernel
theorem dX5_isSame_115 : decode cX5_isSame 115 = .ok (.iload 8, 2) := by decide +kernel
theorem dX5_isSame_117 : decode cX5_isSame 117 = .ok (.iaload, 1) := by decide +kernel
theorem dX5_isSame_118 : decode cX5_isSame 118 = .ok (.if_icmp .eq 5, 3) := by decide +kernel
theorem dX5_isSame_121 : decode cX5_isSame 121 = .ok (.iconst 0, 1) := by decide +kernel
theorem dX5_isSame_122 : decode cX5_isSame 122 = .ok (.ireturn, 1) := by decide +kernel
theorem dX5_isSame_123 : decode cX5_isSame 123 = .ok (.iconst 0, 1) := by decide +kernel
theorem dX5_isSame_124 : decode cX5_isSame 124 = .ok (.istore 10, 2) := by decide +kernel
theorem dX5_isSame_126 : decode cX5_isSame 126 = .ok (.iload 10, 2) := by decide +kernel
theorem dX5_isSame_128 : decode cX5_isSame 128 = .ok (.iconst 2, 1) := by decide +kernel
theorem dX5_isSame_129 : decode cX5_isSame 129 = .ok (.if_icmp .ge 297, 3) := by decide +kernel
theorem dX5_isSame_132 : decode cX5_isSame 132 = .ok (.iload 10, 2) := by decide +kernel
theorem dX5_isSame_134 : decode cX5_isSame 134 = .ok (.iconst 1, 1) := by decide +kernel
theorem dX5_isSame_135 : decode cX5_isSame 135 = .ok (.if_icmp .ne 7, 3) := by decide +kernel
theorem dX5_isSame_138 : decode cX5_isSame 138 = .ok (.iconst 1, 1) := by decide +kernel
theorem dX5_isSame_139 : decode cX5_isSame 139 = .ok (.goto 4, 3) := by decide +kernel
theorem dX5_isSame_142 : decode cX5_isSame 142 = .ok (.iconst 0, 1) := by decide +kernel
theorem dX5_isSame_143 : decode cX5_isSame 143 = .ok (.istore 11, 2) := by decide +kernel
theorem dX5_isSame_145 : decode cX5_isSame 145 = .ok (.bipush 6, 2) := by decide +kernel
theorem dX5_isSame_147 : decode cX5_isSame 147 = .ok (.newarray .int, 2) := by decide +kernel
theorem dX5_isSame_149 : decode cX5_isSame 149 = .ok (.dup, 1) := by decide +kernel
theorem dX5_isSame_150 : decode cX5_isSame 150 = .ok (.iconst 0, 1) := by decide +kernel
theorem dX5_isSame_151 : decode cX5_isSame 151 = .ok (.iconst (-1), 1) := by decide +kernel
theorem dX5_isSame_152 : decode cX5_isSame 152 = .ok (.iastore, 1) := by decide +kernel
theorem dX5_isSame_153 : decode cX5_isSame 153 = .ok (.dup, 1) := by decide +kernel
theorem dX5_isSame_154 : decode cX5_isSame 154 = .ok (.iconst 1, 1) := by decide +kernel
theorem dX5_isSame_155 : decode cX5_isSame 155 = .ok (.iconst (-1), 1) := by decide +kernel
theorem dX5_isSame_156 : decode cX5_isSame 156 = .ok (.iastore, 1) := by decide +kernel
theorem dX5_isSame_157 : decode cX5_isSame 157 = .ok (.dup, 1) := by decide +kernel
theorem dX5_isSame_158 : decode cX5_isSame 158 = .ok (.iconst 2, 1) := by decide +kernel
theorem dX5_isSame_159 : decode cX5_isSame 159 = .ok (.iconst (-1), 1) := by decide +kernel
theorem dX5_isSame_160 : decode cX5_isSame 160 = .ok (.iastore, 1) := by decide +kernel
theorem dX5_isSame_161 : decode cX5_isSame 161 = .ok (.dup, 1) := by decide +kernel
theorem dX5_isSame_162 : decode cX5_isSame 162 = .ok (.iconst 3, 1) := by decide +kernel
theorem dX5_isSame_163 : decode cX5_isSame 163 = .ok (.iconst (-1), 1) := by decide +kernel
theorem dX5_isSame_164 : decode cX5_isSame 164 = .ok (.iastore, 1) := by decide +kernel
theorem dX5_isSame_165 : decode cX5_isSame 165 = .ok (.dup, 1) := by decide +kernel
theorem dX5_isSame_166 : decode cX5_isSame 166 = .ok (.iconst 4, 1) := by decide +kernel
theorem dX5_isSame_167 : decode cX5_isSame 167 = .ok (.iconst (-1), 1) := by decide +kernel
theorem dX5_isSame_168 : decode cX5_isSame 168 = .ok (.iastore, 1) := by decide +kernel
theorem dX5_isSame_169 : decode cX5_isSame 169 = .ok (.dup, 1) := by decide +kernel
theorem dX5_isSame_170 : decode cX5_isSame 170 = .ok (.iconst 5, 1) := by decide +kernel
theorem dX5_isSame_171 : decode cX5_isSame 171 = .ok (.iconst (-1), 1) := by decide +kernel
theorem dX5_isSame_172 : decode cX5_isSame 172 = .ok (.iastore, 1) := by decide +kernel
theorem dX5_isSame_173 : decode cX5_isSame 173 = .ok (.astore 12, 2) := by decide +kernel
theorem dX5_isSame_175 : decode cX5_isSame 175 = .ok (.aload_n 0, 1) := by decide +kernel
theorem dX5_isSame_176 : decode cX5_isSame 176 = .ok (.getfield 18, 3) := by decide +kernel
theorem dX5_isSame_179 : decode cX5_isSame 179 = .ok (.iload 9, 2) := by decide +kernel
theorem dX5_isSame_181 : decode cX5_isSame 181 = .ok (.aaload, 1) := by decide +kernel
theorem dX5_isSame_182 : decode cX5_isSame 182 = .ok (.iload 8, 2) := by decide +kernel
theorem dX5_isSame_184 : decode cX5_isSame 184 = .ok (.iaload, 1) := by decide +kernel
theorem dX5_isSame_185 : decode cX5_isSame 185 = .ok (.ifCond .lt 199, 3) := by decide +kernel
theorem dX5_isSame_188 : decode cX5_isSame 188 = .ok (.aload_n 0, 1) := by decide +kernel
theorem dX5_isSame_189 : decode cX5_isSame 189 = .ok (.iload 8, 2) := by decide +kernel
theorem dX5_isSame_191 : decode cX5_isSame 191 = .ok (.iload 9, 2) := by decide +kernel
theorem dX5_isSame_193 : decode cX5_isSame 193 = .ok (.iload 11, 2) := by decide +kernel
theorem dX5_isSame_195 : decode cX5_isSame 195 = .ok (.invokevirtual 43, 3) := by decide +kernel
theorem dX5_isSame_198 : decode cX5_isSame 198 = .ok (.astore 13, 2) := by decide +kernel
theorem dX5_isSame_200 : decode cX5_isSame 200 = .ok (.iconst 0, 1) := by decide +kernel
theorem dX5_isSame_201 : decode cX5_isSame 201 = .ok (.istore 14, 2) := by decide +kernel
theorem dX5_isSame_203 : decode cX5_isSame 203 = .ok (.iconst 0, 1) := by decide +kernel
theorem dX5_isSame_204 : decode cX5_isSame 204 = .ok (.istore 15, 2) := by decide +kernel
theorem dX5_isSame_206 : decode cX5_isSame 206 = .ok (.aload 13, 2) := by decide +kernel
theorem dX5_isSame_208 : decode cX5_isSame 208 = .ok (.astore 16, 2) := by decide +kernel
theorem dX5_isSame_210 : decode cX5_isSame 210 = .ok (.aload 16, 2) := by decide +kernel
theorem dX5_isSame_212 : decode cX5_isSame 212 = .ok (.arraylength, 1) := by decide +kernel
theorem dX5_isSame_213 : decode cX5_isSame 213 = .ok (.istore 17, 2) := by decide +kernel
theorem dX5_isSame_215 : decode cX5_isSame 215 = .ok (.iconst 0, 1) := by decide +kernel
theorem dX5_isSame_216 : decode cX5_isSame 216 = .ok (.istore 18, 2) := by decide +kernel
theorem dX5_isSame_218 : decode cX5_isSame 218 = .ok (.iload 18, 2) := by decide +kernel
theorem dX5_isSame_220 : decode cX5_isSame 220 = .ok (.iload 17, 2) := by decide +kernel
theorem dX5_isSame_222 : decode cX5_isSame 222 = .ok (.if_icmp .ge 46, 3) := by decide +kernel
theorem dX5_isSame_225 : decode cX5_isSame 225 = .ok (.aload 16, 2) := by decide +kernel
theorem dX5_isSame_227 : decode cX5_isSame 227 = .ok (.iload 18, 2) := by decide +kernel
theorem dX5_isSame_229 : decode cX5_isSame 229 = .ok (.iaload, 1) := by decide +kernel
theorem dX5_isSame_230 : decode cX5_isSame 230 = .ok (.istore 19, 2) := by decide +kernel
theorem dX5_isSame_232 : decode cX5_isSame 232 = .ok (.iload 14, 2) := by decide +kernel
theorem dX5_isSame_234 : decode cX5_isSame 234 = .ok (.aload_n 0, 1) := by decide +kernel
theorem dX5_isSame_235 : decode cX5_isSame 235 = .ok (.iload 19, 2) := by decide +kernel
theorem dX5_isSame_237 : decode cX5_isSame 237 = .ok (.invokevirtual 39, 3) := by decide +kernel
theorem dX5_isSame_240 : decode cX5_isSame 240 = .ok (.ifCond .le 7, 3) := by decide +kernel
theorem dX5_isSame_243 : decode cX5_isSame 243 = .ok (.iconst 1, 1) := by decide +kernel
theorem dX5_isSame_244 : decode cX5_isSame 244 = .ok (.goto 4, 3) := by decide +kernel
theorem dX5_isSame_247 : decode cX5_isSame 247 = .ok (.iconst 0, 1) := by decide +kernel
theorem dX5_isSame_248 : decode cX5_isSame 248 = .ok (.iadd, 1) := by decide +kernel
theorem dX5_isSame_249 : decode cX5_isSame 249 = .ok (.istore 14, 2) := by decide +kernel
theorem dX5_isSame_251 : decode cX5_isSame 251 = .ok (.iload 15, 2) := by decide +kernel
theorem dX5_isSame_253 : decode cX5_isSame 253 = .ok (.aload_n 0, 1) := by decide +kernel
theorem dX5_isSame_254 : decode cX5_isSame 254 = .ok (.iload 19, 2) := by decide +kernel
theorem dX5_isSame_256 : decode cX5_isSame 256 = .ok (.invokevirtual 39, 3) := by decide +kernel
theorem dX5_isSame_259 : decode cX5_isSame 259 = .ok (.iadd, 1) := by decide +kernel
theorem dX5_isSame_260 : decode cX5_isSame 260 = .ok (.istore 15, 2) := by decide +kernel
theorem dX5_isSame_262 : decode cX5_isSame 262 = .ok (.iinc 18 1, 3) := by decide +kernel
theorem dX5_isSame_265 : decode cX5_isSame 265 = .ok (.goto (-47), 3) := by decide +kernel
theorem dX5_isSame_268 : decode cX5_isSame 268 = .ok (.aload_n 0, 1) := by decide +kernel
theorem dX5_isSame_269 : decode cX5_isSame 269 = .ok (.aload 13, 2) := by decide +kernel
theorem dX5_isSame_271 : decode cX5_isSame 271 = .ok (.iload 11, 2) := by decide +kernel
theorem dX5_isSame_273 : decode cX5_isSame 273 = .ok (.invokevirtual 47, 3) := by decide +kernel
theorem dX5_isSame_276 : decode cX5_isSame 276 = .ok (.istore 16, 2) := by decide +kernel
theorem dX5_isSame_278 : decode cX5_isSame 278 = .ok (.bipush 6, 2) := by decide +kernel
theorem dX5_isSame_280 : decode cX5_isSame 280 = .ok (.newarray .int, 2) := by decide +kernel
theorem dX5_isSame_282 : decode cX5_isSame 282 = .ok (.dup, 1) := by decide +kernel
theorem dX5_isSame_283 : decode cX5_isSame 283 = .ok (.iconst 0, 1) := by decide +kernel
theorem dX5_isSame_284 : decode cX5_isSame 284 = .ok (.aload 13, 2) := by decide +kernel
theorem dX5_isSame_286 : decode cX5_isSame 286 = .ok (.iconst 0, 1) := by decide +kernel
theorem dX5_isSame_287 : decode cX5_isSame 287 = .ok (.iaload, 1) := by decide +kernel
theorem dX5_isSame_288 : decode cX5_isSame 288 = .ok (.iastore, 1) := by decide +kernel
theorem dX5_isSame_289 : decode cX5_isSame 289 = .ok (.dup, 1) := by decide +kernel
theorem dX5_isSame_290 : decode cX5_isSame 290 = .ok (.iconst 1, 1) := by decide +kernel
theorem dX5_isSame_291 : decode cX5_isSame 291 = .ok (.aload 13, 2) := by decide +kernel
theorem dX5_isSame_293 : decode cX5_isSame 293 = .ok (.arraylength, 1) := by decide +kernel
theorem dX5_isSame_294 : decode cX5_isSame 294 = .ok (.iastore, 1) := by decide +kernel
theorem dX5_isSame_295 : decode cX5_isSame 295 = .ok (.dup, 1) := by decide +kernel
theorem dX5_isSame_296 : decode cX5_isSame 296 = .ok (.iconst 2, 1) := by decide +kernel
theorem dX5_isSame_297 : decode cX5_isSame 297 = .ok (.aload_n 0, 1) := by decide +kernel
theorem dX5_isSame_298 : decode cX5_isSame 298 = .ok (.aload 13, 2) := by decide +kernel
theorem dX5_isSame_300 : decode cX5_isSame 300 = .ok (.iconst 0, 1) := by decide +kernel
theorem dX5_isSame_301 : decode cX5_isSame 301 = .ok (.iaload, 1) := by decide +kernel
theorem dX5_isSame_302 : decode cX5_isSame 302 = .ok (.iload 11, 2) := by decide +kernel
theorem dX5_isSame_304 : decode cX5_isSame 304 = .ok (.invokevirtual 35, 3) := by decide +kernel
theorem dX5_isSame_307 : decode cX5_isSame 307 = .ok (.iastore, 1) := by decide +kernel
theorem dX5_isSame_308 : decode cX5_isSame 308 = .ok (.dup, 1) := by decide +kernel
theorem dX5_isSame_309 : decode cX5_isSame 309 = .ok (.iconst 3, 1) := by decide +kernel
theorem dX5_isSame_310 : decode cX5_isSame 310 = .ok (.iload 14, 2) := by decide +kernel
theorem dX5_isSame_312 : decode cX5_isSame 312 = .ok (.iastore, 1) := by decide +kernel
theorem dX5_isSame_313 : decode cX5_isSame 313 = .ok (.dup, 1) := by decide +kernel
theorem dX5_isSame_314 : decode cX5_isSame 314 = .ok (.iconst 4, 1) := by decide +kernel
theorem dX5_isSame_315 : decode cX5_isSame 315 = .ok (.iload 15, 2) := by decide +kernel
theorem dX5_isSame_317 : decode cX5_isSame 317 = .ok (.iastore, 1) := by decide +kernel
theorem dX5_isSame_318 : decode cX5_isSame 318 = .ok (.dup, 1) := by decide +kernel
theorem dX5_isSame_319 : decode cX5_isSame 319 = .ok (.iconst 5, 1) := by decide +kernel
theorem dX5_isSame_320 : decode cX5_isSame 320 = .ok (.iload 16, 2) := by decide +kernel
theorem dX5_isSame_322 : decode cX5_isSame 322 = .ok (.ifCond .eq 7, 3) := by decide +kernel
theorem dX5_isSame_325 : decode cX5_isSame 325 = .ok (.iconst 1, 1) := by decide +kernel
theorem dX5_isSame_326 : decode cX5_isSame 326 = .ok (.goto 4, 3) := by decide +kernel
theorem dX5_isSame_329 : decode cX5_isSame 329 = .ok (.iconst 0, 1) := by decide +kernel
theorem dX5_isSame_330 : decode cX5_isSame 330 = .ok (.iastore, 1) := by decide +kernel
theorem dX5_isSame_331 : decode cX5_isSame 331 = .ok (.astore 12, 2) := by decide +kernel
theorem dX5_isSame_333 : decode cX5_isSame 333 = .ok (.aload 13, 2) := by decide +kernel
theorem dX5_isSame_335 : decode cX5_isSame 335 = .ok (.iconst 0, 1) := by decide +kernel
theorem dX5_isSame_336 : decode cX5_isSame 336 = .ok (.iaload, 1) := by decide +kernel
theorem dX5_isSame_337 : decode cX5_isSame 337 = .ok (.iload 7, 2) := by decide +kernel
theorem dX5_isSame_339 : decode cX5_isSame 339 = .ok (.if_icmp .ne 45, 3) := by decide +kernel
theorem dX5_isSame_342 : decode cX5_isSame 342 = .ok (.aload_n 2, 1) := by decide +kernel
theorem dX5_isSame_343 : decode cX5_isSame 343 = .ok (.iconst 4, 1) := by decide +kernel
theorem dX5_isSame_344 : decode cX5_isSame 344 = .ok (.dup2, 1) := by decide +kernel
theorem dX5_isSame_345 : decode cX5_isSame 345 = .ok (.iaload, 1) := by decide +kernel
theorem dX5_isSame_346 : decode cX5_isSame 346 = .ok (.iconst 1, 1) := by decide +kernel
theorem dX5_isSame_347 : decode cX5_isSame 347 = .ok (.iadd, 1) := by decide +kernel
theorem dX5_isSame_348 : decode cX5_isSame 348 = .ok (.iastore, 1) := by decide +kernel
theorem dX5_isSame_349 : decode cX5_isSame 349 = .ok (.aload_n 2, 1) := by decide +kernel
theorem dX5_isSame_350 : decode cX5_isSame 350 = .ok (.iconst 5, 1) := by decide +kernel
theorem dX5_isSame_351 : decode cX5_isSame 351 = .ok (.dup2, 1) := by decide +kernel
theorem dX5_isSame_352 : decode cX5_isSame 352 = .ok (.iaload, 1) := by decide +kernel
theorem dX5_isSame_353 : decode cX5_isSame 353 = .ok (.aload 12, 2) := by decide +kernel
theorem dX5_isSame_355 : decode cX5_isSame 355 = .ok (.iconst 2, 1) := by decide +kernel
theorem dX5_isSame_356 : decode cX5_isSame 356 = .ok (.iaload, 1) := by decide +kernel
theorem dX5_isSame_357 : decode cX5_isSame 357 = .ok (.ifCond .le 7, 3) := by decide +kernel
theorem dX5_isSame_360 : decode cX5_isSame 360 = .ok (.iconst 1, 1) := by decide +kernel
theorem dX5_isSame_361 : decode cX5_isSame 361 = .ok (.goto 4, 3) := by decide +kernel
theorem dX5_isSame_364 : decode cX5_isSame 364 = .ok (.iconst 0, 1) := by decide +kernel
theorem dX5_isSame_365 : decode cX5_isSame 365 = .ok (.iadd, 1) := by decide +kernel
theorem dX5_isSame_366 : decode cX5_isSame 366 = .ok (.iastore, 1) := by decide +kernel
theorem dX5_isSame_367 : decode cX5_isSame 367 = .ok (.aload_n 2, 1) := by decide +kernel
theorem dX5_isSame_368 : decode cX5_isSame 368 = .ok (.bipush 6, 2) := by decide +kernel
theorem dX5_isSame_370 : decode cX5_isSame 370 = .ok (.dup2, 1) := by decide +kernel
theorem dX5_isSame_371 : decode cX5_isSame 371 = .ok (.iaload, 1) := by decide +kernel
theorem dX5_isSame_372 : decode cX5_isSame 372 = .ok (.iload 16, 2) := by decide +kernel
theorem dX5_isSame_374 : decode cX5_isSame 374 = .ok (.ifCond .eq 7, 3) := by decide +kernel
theorem dX5_isSame_377 : decode cX5_isSame 377 = .ok (.iconst 1, 1) := by decide +kernel
theorem dX5_isSame_378 : decode cX5_isSame 378 = .ok (.goto 4, 3) := by decide +kernel
theorem dX5_isSame_381 : decode cX5_isSame 381 = .ok (.iconst 0, 1) := by decide +kernel
theorem dX5_isSame_382 : decode cX5_isSame 382 = .ok (.iadd, 1) := by decide +kernel
theorem dX5_isSame_383 : decode cX5_isSame 383 = .ok (.iastore, 1) := by decide +kernel
theorem dX5_isSame_384 : decode cX5_isSame 384 = .ok (.iconst 0, 1) := by decide +kernel
theorem dX5_isSame_385 : decode cX5_isSame 385 = .ok (.istore 13, 2) := by decide +kernel
theorem dX5_isSame_387 : decode cX5_isSame 387 = .ok (.iload 13, 2) := by decide +kernel
theorem dX5_isSame_389 : decode cX5_isSame 389 = .ok (.bipush 6, 2) := by decide +kernel
theorem dX5_isSame_391 : decode cX5_isSame 391 = .ok (.if_icmp .ge 29, 3) := by decide +kernel
theorem dX5_isSame_394 : decode cX5_isSame 394 = .ok (.aload_n 1, 1) := by decide +kernel
theorem dX5_isSame_395 : decode cX5_isSame 395 = .ok (.iload 7, 2) := by decide +kernel
theorem dX5_isSame_397 : decode cX5_isSame 397 = .ok (.iload 11, 2) := by decide +kernel
theorem dX5_isSame_399 : decode cX5_isSame 399 = .ok (.iload 13, 2) := by decide +kernel
theorem dX5_isSame_401 : decode cX5_isSame 401 = .ok (.invokevirtual 89, 3) := by decide +kernel
theorem dX5_isSame_404 : decode cX5_isSame 404 = .ok (.aload 12, 2) := by decide +kernel
theorem dX5_isSame_406 : decode cX5_isSame 406 = .ok (.iload 13, 2) := by decide +kernel
theorem dX5_isSame_408 : decode cX5_isSame 408 = .ok (.iaload, 1) := by decide +kernel
theorem dX5_isSame_409 : decode cX5_isSame 409 = .ok (.if_icmp .eq 5, 3) := by decide +kernel
theorem dX5_isSame_412 : decode cX5_isSame 412 = .ok (.iconst 0, 1) := by decide +kernel
theorem dX5_isSame_413 : decode cX5_isSame 413 = .ok (.ireturn, 1) := by decide +kernel
theorem dX5_isSame_414 : decode cX5_isSame 414 = .ok (.iinc 13 1, 3) := by decide +kernel
theorem dX5_isSame_417 : decode cX5_isSame 417 = .ok (.goto (-30), 3) := by decide +kernel
theorem dX5_isSame_420 : decode cX5_isSame 420 = .ok (.iinc 10 1, 3) := by decide +kernel
theorem dX5_isSame_423 : decode cX5_isSame 423 = .ok (.goto (-297), 3) := by decide +kernel
theorem dX5_isSame_426 : decode cX5_isSame 426 = .ok (.aload_n 0, 1) := by decide +kernel
theorem dX5_isSame_427 : decode cX5_isSame 427 = .ok (.iload 8, 2) := by decide +kernel
theorem dX5_isSame_429 : decode cX5_isSame 429 = .ok (.iload 9, 2) := by decide +kernel
theorem dX5_isSame_431 : decode cX5_isSame 431 = .ok (.invokevirtual 74, 3) := by decide +kernel
theorem dX5_isSame_434 : decode cX5_isSame 434 = .ok (.istore 10, 2) := by decide +kernel
theorem dX5_isSame_436 : decode cX5_isSame 436 = .ok (.iload 10, 2) := by decide +kernel
theorem dX5_isSame_438 : decode cX5_isSame 438 = .ok (.invokestatic 77, 3) := by decide +kernel
theorem dX5_isSame_441 : decode cX5_isSame 441 = .ok (.istore 11, 2) := by decide +kernel
theorem dX5_isSame_443 : decode cX5_isSame 443 = .ok (.aload_n 1, 1) := by decide +kernel
theorem dX5_isSame_444 : decode cX5_isSame 444 = .ok (.iload 7, 2) := by decide +kernel
theorem dX5_isSame_446 : decode cX5_isSame 446 = .ok (.invokevirtual 92, 3) := by decide +kernel
theorem dX5_isSame_449 : decode cX5_isSame 449 = .ok (.iload 10, 2) := by decide +kernel
theorem dX5_isSame_451 : decode cX5_isSame 451 = .ok (.if_icmp .eq 5, 3) := by decide +kernel
theorem dX5_isSame_454 : decode cX5_isSame 454 = .ok (.iconst 0, 1) := by decide +kernel
theorem dX5_isSame_455 : decode cX5_isSame 455 = .ok (.ireturn, 1) := by decide +kernel
theorem dX5_isSame_456 : decode cX5_isSame 456 = .ok (.aload_n 2, 1) := by decide +kernel
theorem dX5_isSame_457 : decode cX5_isSame 457 = .ok (.iconst 2, 1) := by decide +kernel
theorem dX5_isSame_458 : decode cX5_isSame 458 = .ok (.dup2, 1) := by decide +kernel
theorem dX5_isSame_459 : decode cX5_isSame 459 = .ok (.iaload, 1) := by decide +kernel
theorem dX5_isSame_460 : decode cX5_isSame 460 = .ok (.aload_n 0, 1) := by decide +kernel
theorem dX5_isSame_461 : decode cX5_isSame 461 = .ok (.getfield 18, 3) := by decide +kernel
theorem dX5_isSame_464 : decode cX5_isSame 464 = .ok (.iload 9, 2) := by decide +kernel
theorem dX5_isSame_466 : decode cX5_isSame 466 = .ok (.aaload, 1) := by decide +kernel
theorem dX5_isSame_467 : decode cX5_isSame 467 = .ok (.iload 8, 2) := by decide +kernel
theorem dX5_isSame_469 : decode cX5_isSame 469 = .ok (.iaload, 1) := by decide +kernel
theorem dX5_isSame_470 : decode cX5_isSame 470 = .ok (.ifCond .lt 7, 3) := by decide +kernel
theorem dX5_isSame_473 : decode cX5_isSame 473 = .ok (.iconst 1, 1) := by decide +kernel
theorem dX5_isSame_474 : decode cX5_isSame 474 = .ok (.goto 4, 3) := by decide +kernel
theorem dX5_isSame_477 : decode cX5_isSame 477 = .ok (.iconst 0, 1) := by decide +kernel
theorem dX5_isSame_478 : decode cX5_isSame 478 = .ok (.iadd, 1) := by decide +kernel
theorem dX5_isSame_479 : decode cX5_isSame 479 = .ok (.iastore, 1) := by decide +kernel
theorem dX5_isSame_480 : decode cX5_isSame 480 = .ok (.aload_n 2, 1) := by decide +kernel
theorem dX5_isSame_481 : decode cX5_isSame 481 = .ok (.iconst 3, 1) := by decide +kernel
theorem dX5_isSame_482 : decode cX5_isSame 482 = .ok (.dup2, 1) := by decide +kernel
theorem dX5_isSame_483 : decode cX5_isSame 483 = .ok (.iaload, 1) := by decide +kernel
theorem dX5_isSame_484 : decode cX5_isSame 484 = .ok (.aload_n 0, 1) := by decide +kernel
theorem dX5_isSame_485 : decode cX5_isSame 485 = .ok (.getfield 18, 3) := by decide +kernel
theorem dX5_isSame_488 : decode cX5_isSame 488 = .ok (.iload 9, 2) := by decide +kernel
theorem dX5_isSame_490 : decode cX5_isSame 490 = .ok (.aaload, 1) := by decide +kernel
theorem dX5_isSame_491 : decode cX5_isSame 491 = .ok (.iload 8, 2) := by decide +kernel
theorem dX5_isSame_493 : decode cX5_isSame 493 = .ok (.iaload, 1) := by decide +kernel
theorem dX5_isSame_494 : decode cX5_isSame 494 = .ok (.ifCond .le 7, 3) := by decide +kernel
theorem dX5_isSame_497 : decode cX5_isSame 497 = .ok (.iconst 1, 1) := by decide +kernel
theorem dX5_isSame_498 : decode cX5_isSame 498 = .ok (.goto 4, 3) := by decide +kernel
theorem dX5_isSame_501 : decode cX5_isSame 501 = .ok (.iconst 0, 1) := by decide +kernel
theorem dX5_isSame_502 : decode cX5_isSame 502 = .ok (.iadd, 1) := by decide +kernel
theorem dX5_isSame_503 : decode cX5_isSame 503 = .ok (.iastore, 1) := by decide +kernel
theorem dX5_isSame_504 : decode cX5_isSame 504 = .ok (.aload_n 2, 1) := by decide +kernel
theorem dX5_isSame_505 : decode cX5_isSame 505 = .ok (.bipush 7, 2) := by decide +kernel
theorem dX5_isSame_507 : decode cX5_isSame 507 = .ok (.dup2, 1) := by decide +kernel
theorem dX5_isSame_508 : decode cX5_isSame 508 = .ok (.iaload, 1) := by decide +kernel
theorem dX5_isSame_509 : decode cX5_isSame 509 = .ok (.iload 11, 2) := by decide +kernel
theorem dX5_isSame_511 : decode cX5_isSame 511 = .ok (.iconst 1, 1) := by decide +kernel
theorem dX5_isSame_512 : decode cX5_isSame 512 = .ok (.if_icmp .ne 7, 3) := by decide +kernel
theorem dX5_isSame_515 : decode cX5_isSame 515 = .ok (.iconst 1, 1) := by decide +kernel
theorem dX5_isSame_516 : decode cX5_isSame 516 = .ok (.goto 4, 3) := by decide +kernel
theorem dX5_isSame_519 : decode cX5_isSame 519 = .ok (.iconst 0, 1) := by decide +kernel
theorem dX5_isSame_520 : decode cX5_isSame 520 = .ok (.iadd, 1) := by decide +kernel
theorem dX5_isSame_521 : decode cX5_isSame 521 = .ok (.iastore, 1) := by decide +kernel
theorem dX5_isSame_522 : decode cX5_isSame 522 = .ok (.aload_n 2, 1) := by decide +kernel
theorem dX5_isSame_523 : decode cX5_isSame 523 = .ok (.bipush 8, 2) := by decide +kernel
theorem dX5_isSame_525 : decode cX5_isSame 525 = .ok (.dup2, 1) := by decide +kernel
theorem dX5_isSame_526 : decode cX5_isSame 526 = .ok (.iaload, 1) := by decide +kernel
theorem dX5_isSame_527 : decode cX5_isSame 527 = .ok (.aload_n 0, 1) := by decide +kernel
theorem dX5_isSame_528 : decode cX5_isSame 528 = .ok (.getfield 18, 3) := by decide +kernel
theorem dX5_isSame_531 : decode cX5_isSame 531 = .ok (.iload 9, 2) := by decide +kernel
theorem dX5_isSame_533 : decode cX5_isSame 533 = .ok (.aaload, 1) := by decide +kernel
theorem dX5_isSame_534 : decode cX5_isSame 534 = .ok (.iload 8, 2) := by decide +kernel
theorem dX5_isSame_536 : decode cX5_isSame 536 = .ok (.iaload, 1) := by decide +kernel
theorem dX5_isSame_537 : decode cX5_isSame 537 = .ok (.ifCond .ne 12, 3) := by decide +kernel
theorem dX5_isSame_540 : decode cX5_isSame 540 = .ok (.iload 11, 2) := by decide +kernel
theorem dX5_isSame_542 : decode cX5_isSame 542 = .ok (.ifCond .ne 7, 3) := by decide +kernel
theorem dX5_isSame_545 : decode cX5_isSame 545 = .ok (.iconst 1, 1) := by decide +kernel
theorem dX5_isSame_546 : decode cX5_isSame 546 = .ok (.goto 4, 3) := by decide +kernel
theorem dX5_isSame_549 : decode cX5_isSame 549 = .ok (.iconst 0, 1) := by decide +kernel
theorem dX5_isSame_550 : decode cX5_isSame 550 = .ok (.iadd, 1) := by decide +kernel
theorem dX5_isSame_551 : decode cX5_isSame 551 = .ok (.iastore, 1) := by decide +kernel
theorem dX5_isSame_552 : decode cX5_isSame 552 = .ok (.aload_n 0, 1) := by decide +kernel
theorem dX5_isSame_553 : decode cX5_isSame 553 = .ok (.getfield 18, 3) := by decide +kernel
theorem dX5_isSame_556 : decode cX5_isSame 556 = .ok (.iload 9, 2) := by decide +kernel
theorem dX5_isSame_558 : decode cX5_isSame 558 = .ok (.aaload, 1) := by decide +kernel
theorem dX5_isSame_559 : decode cX5_isSame 559 = .ok (.iload 8, 2) := by decide +kernel
theorem dX5_isSame_561 : decode cX5_isSame 561 = .ok (.iaload, 1) := by decide +kernel
theorem dX5_isSame_562 : decode cX5_isSame 562 = .ok (.ifCond .eq 6, 3) := by decide +kernel
theorem dX5_isSame_565 : decode cX5_isSame 565 = .ok (.goto 28, 3) := by decide +kernel
theorem dX5_isSame_568 : decode cX5_isSame 568 = .ok (.iinc 3 1, 3) := by decide +kernel
theorem dX5_isSame_571 : decode cX5_isSame 571 = .ok (.iload 4, 2) := by decide +kernel
theorem dX5_isSame_573 : decode cX5_isSame 573 = .ok (.iload 11, 2) := by decide +kernel
theorem dX5_isSame_575 : decode cX5_isSame 575 = .ok (.iadd, 1) := by decide +kernel
theorem dX5_isSame_576 : decode cX5_isSame 576 = .ok (.istore 4, 2) := by decide +kernel
theorem dX5_isSame_578 : decode cX5_isSame 578 = .ok (.iload 11, 2) := by decide +kernel
theorem dX5_isSame_580 : decode cX5_isSame 580 = .ok (.iload 6, 2) := by decide +kernel
theorem dX5_isSame_582 : decode cX5_isSame 582 = .ok (.if_icmp .ge 11, 3) := by decide +kernel
theorem dX5_isSame_585 : decode cX5_isSame 585 = .ok (.iload 11, 2) := by decide +kernel
theorem dX5_isSame_587 : decode cX5_isSame 587 = .ok (.istore 6, 2) := by decide +kernel
theorem dX5_isSame_589 : decode cX5_isSame 589 = .ok (.iload 7, 2) := by decide +kernel
theorem dX5_isSame_591 : decode cX5_isSame 591 = .ok (.istore 5, 2) := by decide +kernel
theorem dX5_isSame_593 : decode cX5_isSame 593 = .ok (.iinc 7 1, 3) := by decide +kernel
theorem dX5_isSame_596 : decode cX5_isSame 596 = .ok (.goto (-526), 3) := by decide +kernel
theorem dX5_isSame_599 : decode cX5_isSame 599 = .ok (.iconst 0, 1) := by decide +kernel
theorem dX5_isSame_600 : decode cX5_isSame 600 = .ok (.istore 7, 2) := by decide +kernel
theorem dX5_isSame_602 : decode cX5_isSame 602 = .ok (.iload 7, 2) := by decide +kernel
theorem dX5_isSame_604 : decode cX5_isSame 604 = .ok (.bipush 9, 2) := by decide +kernel
theorem dX5_isSame_606 : decode cX5_isSame 606 = .ok (.if_icmp .ge 24, 3) := by decide +kernel
theorem dX5_isSame_609 : decode cX5_isSame 609 = .ok (.aload_n 1, 1) := by decide +kernel
theorem dX5_isSame_610 : decode cX5_isSame 610 = .ok (.iload 7, 2) := by decide +kernel
theorem dX5_isSame_612 : decode cX5_isSame 612 = .ok (.invokevirtual 94, 3) := by decide +kernel
theorem dX5_isSame_615 : decode cX5_isSame 615 = .ok (.aload_n 2, 1) := by decide +kernel
theorem dX5_isSame_616 : decode cX5_isSame 616 = .ok (.iload 7, 2) := by decide +kernel
theorem dX5_isSame_618 : decode cX5_isSame 618 = .ok (.iaload, 1) := by decide +kernel
theorem dX5_isSame_619 : decode cX5_isSame 619 = .ok (.if_icmp .eq 5, 3) := by decide +kernel
theorem dX5_isSame_622 : decode cX5_isSame 622 = .ok (.iconst 0, 1) := by decide +kernel
theorem dX5_isSame_623 : decode cX5_isSame 623 = .ok (.ireturn, 1) := by decide +kernel
theorem dX5_isSame_624 : decode cX5_isSame 624 = .ok (.iinc 7 1, 3) := by decide +kernel
theorem dX5_isSame_627 : decode cX5_isSame 627 = .ok (.goto (-25), 3) := by decide +kernel
theorem dX5_isSame_630 : decode cX5_isSame 630 = .ok (.aload_n 1, 1) := by decide +kernel
theorem dX5_isSame_631 : decode cX5_isSame 631 = .ok (.invokevirtual 97, 3) := by decide +kernel
theorem dX5_isSame_634 : decode cX5_isSame 634 = .ok (.iload 5, 2) := by decide +kernel
theorem dX5_isSame_636 : decode cX5_isSame 636 = .ok (.if_icmp .ne 29, 3) := by decide +kernel
theorem dX5_isSame_639 : decode cX5_isSame 639 = .ok (.aload_n 1, 1) := by decide +kernel
theorem dX5_isSame_640 : decode cX5_isSame 640 = .ok (.invokevirtual 100, 3) := by decide +kernel
theorem dX5_isSame_643 : decode cX5_isSame 643 = .ok (.iload_n 3, 1) := by decide +kernel
theorem dX5_isSame_644 : decode cX5_isSame 644 = .ok (.ifCond .ne 7, 3) := by decide +kernel
theorem dX5_isSame_647 : decode cX5_isSame 647 = .ok (.dconst 0, 1) := by decide +kernel
theorem dX5_isSame_648 : decode cX5_isSame 648 = .ok (.goto 9, 3) := by decide +kernel
theorem dX5_isSame_651 : decode cX5_isSame 651 = .ok (.iload 4, 2) := by decide +kernel
theorem dX5_isSame_653 : decode cX5_isSame 653 = .ok (.i2d, 1) := by decide +kernel
theorem dX5_isSame_654 : decode cX5_isSame 654 = .ok (.iload_n 3, 1) := by decide +kernel
theorem dX5_isSame_655 : decode cX5_isSame 655 = .ok (.i2d, 1) := by decide +kernel
theorem dX5_isSame_656 : decode cX5_isSame 656 = .ok (.ddiv, 1) := by decide +kernel
theorem dX5_isSame_657 : decode cX5_isSame 657 = .ok (.dcmp .l, 1) := by decide +kernel
theorem dX5_isSame_658 : decode cX5_isSame 658 = .ok (.ifCond .ne 7, 3) := by decide +kernel
theorem dX5_isSame_661 : decode cX5_isSame 661 = .ok (.iconst 1, 1) := by decide +kernel
theorem dX5_isSame_662 : decode cX5_isSame 662 = .ok (.goto 4, 3) := by decide +kernel
theorem dX5_isSame_665 : decode cX5_isSame 665 = .ok (.iconst 0, 1) := by decide +kernel
theorem dX5_isSame_666 : decode cX5_isSame 666 = .ok (.ireturn, 1) := by decide +kernel
theorem dJ6_bitCount_0f7a4_0 : decode cJ6_bitCount_0f7a4 0 = .ok (.iload_n 0, 1) := by decide +kernel
theorem dJ6_bitCount_0f7a4_1 : decode cJ6_bitCount_0f7a4 1 = .ok (.iload_n 0, 1) := by decide +kernel
theorem dJ6_bitCount_0f7a4_2 : decode cJ6_bitCount_0f7a4 2 = .ok (.iconst 1, 1) := by decide +kernel
theorem dJ6_bitCount_0f7a4_3 : decode cJ6_bitCount_0f7a4 3 = .ok (.iushr, 1) := by decide +kernel
theorem dJ6_bitCount_0f7a4_4 : decode cJ6_bitCount_0f7a4 4 = .ok (.ldc_w 265, 3) := by decide +kernel
theorem dJ6_bitCount_0f7a4_7 : decode cJ6_bitCount_0f7a4 7 = .ok (.iand, 1) := by decide +kernel
theorem dJ6_bitCount_0f7a4_8 : decode cJ6_bitCount_0f7a4 8 = .ok (.isub, 1) := by decide +kernel
theorem dJ6_bitCount_0f7a4_9 : decode cJ6_bitCount_0f7a4 9 = .ok (.istore_n 0, 1) := by decide +kernel
theorem dJ6_bitCount_0f7a4_10 : decode cJ6_bitCount_0f7a4 10 = .ok (.iload_n 0, 1) := by decide +kernel
theorem dJ6_bitCount_0f7a4_11 : decode cJ6_bitCount_0f7a4 11 = .ok (.ldc_w 266, 3) := by decide +kernel
theorem dJ6_bitCount_0f7a4_14 : decode cJ6_bitCount_0f7a4 14 = .ok (.iand, 1) := by decide +kernel
theorem dJ6_bitCount_0f7a4_15 : decode cJ6_bitCount_0f7a4 15 = .ok (.iload_n 0, 1) := by decide +kernel
theorem dJ6_bitCount_0f7a4_16 : decode cJ6_bitCount_0f7a4 16 = .ok (.iconst 2, 1) := by decide +kernel
theorem dJ6_bitCount_0f7a4_17 : decode cJ6_bitCount_0f7a4 17 = .ok (.iushr, 1) := by decide +kernel
theorem dJ6_bitCount_0f7a4_18 : decode cJ6_bitCount_0f7a4 18 = .ok (.ldc_w 266, 3) := by decide +kernel
theorem dJ6_bitCount_0f7a4_21 : decode cJ6_bitCount_0f7a4 21 = .ok (.iand, 1) := by decide +kernel
theorem dJ6_bitCount_0f7a4_22 : decode cJ6_bitCount_0f7a4 22 = .ok (.iadd, 1) := by decide +kernel
theorem dJ6_bitCount_0f7a4_23 : decode cJ6_bitCount_0f7a4 23 = .ok (.istore_n 0, 1) := by decide +kernel
theorem dJ6_bitCount_0f7a4_24 : decode cJ6_bitCount_0f7a4 24 = .ok (.iload_n 0, 1) := by decide +kernel
theorem dJ6_bitCount_0f7a4_25 : decode cJ6_bitCount_0f7a4 25 = .ok (.iload_n 0, 1) := by decide +kernel
theorem dJ6_bitCount_0f7a4_26 : decode cJ6_bitCount_0f7a4 26 = .ok (.iconst 4, 1) := by decide +kernel
theorem dJ6_bitCount_0f7a4_27 : decode cJ6_bitCount_0f7a4 27 = .ok (.iushr, 1) := by decide +kernel
theorem dJ6_bitCount_0f7a4_28 : decode cJ6_bitCount_0f7a4 28 = .ok (.iadd, 1) := by decide +kernel
theorem dJ6_bitCount_0f7a4_29 : decode cJ6_bitCount_0f7a4 29 = .ok (.ldc_w 267, 3) := by decide +kernel
theorem dJ6_bitCount_0f7a4_32 : decode cJ6_bitCount_0f7a4 32 = .ok (.iand, 1) := by decide +kernel
theorem dJ6_bitCount_0f7a4_33 : decode cJ6_bitCount_0f7a4 33 = .ok (.istore_n 0, 1) := by decide +kernel
theorem dJ6_bitCount_0f7a4_34 : decode cJ6_bitCount_0f7a4 34 = .ok (.iload_n 0, 1) := by decide +kernel
theorem dJ6_bitCount_0f7a4_35 : decode cJ6_bitCount_0f7a4 35 = .ok (.iload_n 0, 1) := by decide +kernel
theorem dJ6_bitCount_0f7a4_36 : decode cJ6_bitCount_0f7a4 36 = .ok (.bipush 8, 2) := by decide +kernel
theorem dJ6_bitCount_0f7a4_38 : decode cJ6_bitCount_0f7a4 38 = .ok (.iushr, 1) := by decide +kernel
theorem dJ6_bitCount_0f7a4_39 : decode cJ6_bitCount_0f7a4 39 = .ok (.iadd, 1) := by decide +kernel
theorem dJ6_bitCount_0f7a4_40 : decode cJ6_bitCount_0f7a4 40 = .ok (.istore_n 0, 1) := by decide +kernel
theorem dJ6_bitCount_0f7a4_41 : decode cJ6_bitCount_0f7a4 41 = .ok (.iload_n 0, 1) := by decide +kernel
theorem dJ6_bitCount_0f7a4_42 : decode cJ6_bitCount_0f7a4 42 = .ok (.iload_n 0, 1) := by decide +kernel
theorem dJ6_bitCount_0f7a4_43 : decode cJ6_bitCount_0f7a4 43 = .ok (.bipush 16, 2) := by decide +kernel
theorem dJ6_bitCount_0f7a4_45 : decode cJ6_bitCount_0f7a4 45 = .ok (.iushr, 1) := by decide +kernel
theorem dJ6_bitCount_0f7a4_46 : decode cJ6_bitCount_0f7a4 46 = .ok (.iadd, 1) := by decide +kernel
theorem dJ6_bitCount_0f7a4_47 : decode cJ6_bitCount_0f7a4 47 = .ok (.istore_n 0, 1) := by decide +kernel
theorem dJ6_bitCount_0f7a4_48 : decode cJ6_bitCount_0f7a4 48 = .ok (.iload_n 0, 1) := by decide +kernel
theorem dJ6_bitCount_0f7a4_49 : decode cJ6_bitCount_0f7a4 49 = .ok (.bipush 63, 2) := by decide +kernel
theorem dJ6_bitCount_0f7a4_51 : decode cJ6_bitCount_0f7a4 51 = .ok (.iand, 1) := by decide +kernel
theorem dJ6_bitCount_0f7a4_52 : decode cJ6_bitCount_0f7a4 52 = .ok (.ireturn, 1) := by decide +kernel
theorem dJ9_max_7cf53_0 : decode cJ9_max_7cf53 0 = .ok (.iload_n 0, 1) := by decide +kernel
theorem dJ9_max_7cf53_1 : decode cJ9_max_7cf53 1 = .ok (.iload_n 1, 1) := by decide +kernel
theorem dJ9_max_7cf53_2 : decode cJ9_max_7cf53 2 = .ok (.if_icmp .lt 7, 3) := by decide +kernel
theorem dJ9_max_7cf53_5 : decode cJ9_max_7cf53 5 = .ok (.iload_n 0, 1) := by decide +kernel
theorem dJ9_max_7cf53_6 : decode cJ9_max_7cf53 6 = .ok (.goto 4, 3) := by decide +kernel
theorem dJ9_max_7cf53_9 : decode cJ9_max_7cf53 9 = .ok (.iload_n 1, 1) := by decide +kernel
theorem dJ9_max_7cf53_10 : decode cJ9_max_7cf53 10 = .ok (.ireturn, 1) := by decide +kernel
