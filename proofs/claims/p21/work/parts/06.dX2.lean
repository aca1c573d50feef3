theorem dX2_init_0 : decode cX2_init 0 = .ok (.aload_n 0, 1) := by decide +kernel
theorem dX2_init_1 : decode cX2_init 1 = .ok (.invokespecial 3, 3) := by decide +kernel
theorem dX2_init_4 : decode cX2_init 4 = .ok (.aload_n 0, 1) := by decide +kernel
theorem dX2_init_5 : decode cX2_init 5 = .ok (.sipush 3584, 3) := by decide +kernel
theorem dX2_init_8 : decode cX2_init 8 = .ok (.newarray .long, 2) := by decide +kernel
theorem dX2_init_10 : decode cX2_init 10 = .ok (.putfield 11, 3) := by decide +kernel
theorem dX2_init_13 : decode cX2_init 13 = .ok (.aload_n 0, 1) := by decide +kernel
theorem dX2_init_14 : decode cX2_init 14 = .ok (.iconst 0, 1) := by decide +kernel
theorem dX2_init_15 : decode cX2_init 15 = .ok (.iconst 0, 1) := by decide +kernel
theorem dX2_init_16 : decode cX2_init 16 = .ok (.lconst 1, 1) := by decide +kernel
theorem dX2_init_17 : decode cX2_init 17 = .ok (.invokevirtual 15, 3) := by decide +kernel
theorem dX2_init_20 : decode cX2_init 20 = .ok (.iconst 1, 1) := by decide +kernel
theorem dX2_init_21 : decode cX2_init 21 = .ok (.istore_n 1, 1) := by decide +kernel
theorem dX2_init_22 : decode cX2_init 22 = .ok (.iload_n 1, 1) := by decide +kernel
theorem dX2_init_23 : decode cX2_init 23 = .ok (.bipush 9, 2) := by decide +kernel
theorem dX2_init_25 : decode cX2_init 25 = .ok (.if_icmp .gt 30, 3) := by decide +kernel
theorem dX2_init_28 : decode cX2_init 28 = .ok (.iconst 0, 1) := by decide +kernel
theorem dX2_init_29 : decode cX2_init 29 = .ok (.istore_n 2, 1) := by decide +kernel
theorem dX2_init_30 : decode cX2_init 30 = .ok (.iload_n 2, 1) := by decide +kernel
theorem dX2_init_31 : decode cX2_init 31 = .ok (.iconst 1, 1) := by decide +kernel
theorem dX2_init_32 : decode cX2_init 32 = .ok (.iload_n 1, 1) := by decide +kernel
theorem dX2_init_33 : decode cX2_init 33 = .ok (.ishl, 1) := by decide +kernel
theorem dX2_init_34 : decode cX2_init 34 = .ok (.if_icmp .ge 15, 3) := by decide +kernel
theorem dX2_init_37 : decode cX2_init 37 = .ok (.aload_n 0, 1) := by decide +kernel
theorem dX2_init_38 : decode cX2_init 38 = .ok (.iload_n 2, 1) := by decide +kernel
theorem dX2_init_39 : decode cX2_init 39 = .ok (.iload_n 1, 1) := by decide +kernel
theorem dX2_init_40 : decode cX2_init 40 = .ok (.invokevirtual 19, 3) := by decide +kernel
theorem dX2_init_43 : decode cX2_init 43 = .ok (.iinc 2 2, 3) := by decide +kernel
theorem dX2_init_46 : decode cX2_init 46 = .ok (.goto (-16), 3) := by decide +kernel
theorem dX2_init_49 : decode cX2_init 49 = .ok (.iinc 1 1, 3) := by decide +kernel
theorem dX2_init_52 : decode cX2_init 52 = .ok (.goto (-30), 3) := by decide +kernel
theorem dX2_init_55 : decode cX2_init 55 = .ok (.return_, 1) := by decide +kernel
theorem dX2_make_0 : decode cX2_make 0 = .ok (.iload_n 2, 1) := by decide +kernel
theorem dX2_make_1 : decode cX2_make 1 = .ok (.ifCond .lt 19, 3) := by decide +kernel
theorem dX2_make_4 : decode cX2_make 4 = .ok (.iload_n 2, 1) := by decide +kernel
theorem dX2_make_5 : decode cX2_make 5 = .ok (.bipush 7, 2) := by decide +kernel
theorem dX2_make_7 : decode cX2_make 7 = .ok (.if_icmp .ge 13, 3) := by decide +kernel
theorem dX2_make_10 : decode cX2_make 10 = .ok (.iload_n 3, 1) := by decide +kernel
theorem dX2_make_11 : decode cX2_make 11 = .ok (.ifCond .lt 9, 3) := by decide +kernel
theorem dX2_make_14 : decode cX2_make 14 = .ok (.iload_n 3, 1) := by decide +kernel
theorem dX2_make_15 : decode cX2_make 15 = .ok (.bipush 45, 2) := by decide +kernel
theorem dX2_make_17 : decode cX2_make 17 = .ok (.if_icmp .le 5, 3) := by decide +kernel
theorem dX2_make_20 : decode cX2_make 20 = .ok (.iconst 0, 1) := by decide +kernel
theorem dX2_make_21 : decode cX2_make 21 = .ok (.ireturn, 1) := by decide +kernel
theorem dX2_make_22 : decode cX2_make 22 = .ok (.iload_n 1, 1) := by decide +kernel
theorem dX2_make_23 : decode cX2_make 23 = .ok (.iconst 1, 1) := by decide +kernel
theorem dX2_make_24 : decode cX2_make 24 = .ok (.ishr, 1) := by decide +kernel
theorem dX2_make_25 : decode cX2_make 25 = .ok (.bipush 7, 2) := by decide +kernel
theorem dX2_make_27 : decode cX2_make 27 = .ok (.imul, 1) := by decide +kernel
theorem dX2_make_28 : decode cX2_make 28 = .ok (.iload_n 2, 1) := by decide +kernel
theorem dX2_make_29 : decode cX2_make 29 = .ok (.iadd, 1) := by decide +kernel
theorem dX2_make_30 : decode cX2_make 30 = .ok (.istore 4, 2) := by decide +kernel
theorem dX2_make_32 : decode cX2_make 32 = .ok (.iload 4, 2) := by decide +kernel
theorem dX2_make_34 : decode cX2_make 34 = .ok (.ifCond .lt 33, 3) := by decide +kernel
theorem dX2_make_37 : decode cX2_make 37 = .ok (.iload 4, 2) := by decide +kernel
theorem dX2_make_39 : decode cX2_make 39 = .ok (.aload_n 0, 1) := by decide +kernel
theorem dX2_make_40 : decode cX2_make 40 = .ok (.getfield 11, 3) := by decide +kernel
theorem dX2_make_43 : decode cX2_make 43 = .ok (.arraylength, 1) := by decide +kernel
theorem dX2_make_44 : decode cX2_make 44 = .ok (.if_icmp .ge 23, 3) := by decide +kernel
theorem dX2_make_47 : decode cX2_make 47 = .ok (.aload_n 0, 1) := by decide +kernel
theorem dX2_make_48 : decode cX2_make 48 = .ok (.getfield 11, 3) := by decide +kernel
theorem dX2_make_51 : decode cX2_make 51 = .ok (.iload 4, 2) := by decide +kernel
theorem dX2_make_53 : decode cX2_make 53 = .ok (.laload, 1) := by decide +kernel
theorem dX2_make_54 : decode cX2_make 54 = .ok (.iload_n 3, 1) := by decide +kernel
theorem dX2_make_55 : decode cX2_make 55 = .ok (.lshr, 1) := by decide +kernel
theorem dX2_make_56 : decode cX2_make 56 = .ok (.lconst 1, 1) := by decide +kernel
theorem dX2_make_57 : decode cX2_make 57 = .ok (.land, 1) := by decide +kernel
theorem dX2_make_58 : decode cX2_make 58 = .ok (.lconst 0, 1) := by decide +kernel
theorem dX2_make_59 : decode cX2_make 59 = .ok (.lcmp, 1) := by decide +kernel
theorem dX2_make_60 : decode cX2_make 60 = .ok (.ifCond .eq 7, 3) := by decide +kernel
theorem dX2_make_63 : decode cX2_make 63 = .ok (.iconst 1, 1) := by decide +kernel
theorem dX2_make_64 : decode cX2_make 64 = .ok (.goto 4, 3) := by decide +kernel
theorem dX2_make_67 : decode cX2_make 67 = .ok (.iconst 0, 1) := by decide +kernel
theorem dX2_make_68 : decode cX2_make 68 = .ok (.ireturn, 1) := by decide +kernel
set_option maxRecDepth 20000 in
theorem ggX2_addHighest_X2_sumsOf : GoodIn wsX2_addHighest wsX2_sumsOf := goodIn_r _ [5, 6, 11] (by decide +kernel) (by decide +kernel)
set_option maxRecDepth 20000 in
theorem gX2_addHighest_X2_sumsOf : GoodIn wsX2_addHighest (wsV RX2 23 RX2 yX2_sumsOf wsX2_sumsOf) := goodIn_app (goodIn_of _ (by decide +kernel)) ggX2_addHighest_X2_sumsOf
set_option maxRecDepth 20000 in
theorem ggX2_addHighest_X2_keepSums : GoodIn wsX2_addHighest wsX2_keepSums := goodIn_r _ [10, 6, 11] (by decide +kernel) (by decide +kernel)
set_option maxRecDepth 20000 in
theorem gX2_addHighest_X2_keepSums : GoodIn wsX2_addHighest (wsV RX2 15 RX2 yX2_keepSums wsX2_keepSums) := goodIn_app (goodIn_of _ (by decide +kernel)) ggX2_addHighest_X2_keepSums
theorem dX2_addHighest_0 : decode cX2_addHighest 0 = .ok (.iload_n 1, 1) := by decide +kernel
theorem dX2_addHighest_1 : decode cX2_addHighest 1 = .ok (.iconst 1, 1) := by decide +kernel
theorem dX2_addHighest_2 : decode cX2_addHighest 2 = .ok (.iload_n 2, 1) := by decide +kernel
theorem dX2_addHighest_3 : decode cX2_addHighest 3 = .ok (.ishl, 1) := by decide +kernel
theorem dX2_addHighest_4 : decode cX2_addHighest 4 = .ok (.ior, 1) := by decide +kernel
theorem dX2_addHighest_5 : decode cX2_addHighest 5 = .ok (.istore_n 3, 1) := by decide +kernel
theorem dX2_addHighest_6 : decode cX2_addHighest 6 = .ok (.iconst 0, 1) := by decide +kernel
theorem dX2_addHighest_7 : decode cX2_addHighest 7 = .ok (.istore 4, 2) := by decide +kernel
theorem dX2_addHighest_9 : decode cX2_addHighest 9 = .ok (.iload 4, 2) := by decide +kernel
theorem dX2_addHighest_11 : decode cX2_addHighest 11 = .ok (.bipush 7, 2) := by decide +kernel
theorem dX2_addHighest_13 : decode cX2_addHighest 13 = .ok (.if_icmp .ge 52, 3) := by decide +kernel
theorem dX2_addHighest_16 : decode cX2_addHighest 16 = .ok (.aload_n 0, 1) := by decide +kernel
theorem dX2_addHighest_17 : decode cX2_addHighest 17 = .ok (.iload_n 1, 1) := by decide +kernel
theorem dX2_addHighest_18 : decode cX2_addHighest 18 = .ok (.iload 4, 2) := by decide +kernel
theorem dX2_addHighest_20 : decode cX2_addHighest 20 = .ok (.invokevirtual 23, 3) := by decide +kernel
theorem dX2_addHighest_23 : decode cX2_addHighest 23 = .ok (.lstore 5, 2) := by decide +kernel
theorem dX2_addHighest_25 : decode cX2_addHighest 25 = .ok (.iload 4, 2) := by decide +kernel
theorem dX2_addHighest_27 : decode cX2_addHighest 27 = .ok (.ifCond .ne 7, 3) := by decide +kernel
theorem dX2_addHighest_30 : decode cX2_addHighest 30 = .ok (.lconst 0, 1) := by decide +kernel
theorem dX2_addHighest_31 : decode cX2_addHighest 31 = .ok (.goto 14, 3) := by decide +kernel
theorem dX2_addHighest_34 : decode cX2_addHighest 34 = .ok (.aload_n 0, 1) := by decide +kernel
theorem dX2_addHighest_35 : decode cX2_addHighest 35 = .ok (.iload_n 1, 1) := by decide +kernel
theorem dX2_addHighest_36 : decode cX2_addHighest 36 = .ok (.iload 4, 2) := by decide +kernel
theorem dX2_addHighest_38 : decode cX2_addHighest 38 = .ok (.iconst 1, 1) := by decide +kernel
theorem dX2_addHighest_39 : decode cX2_addHighest 39 = .ok (.isub, 1) := by decide +kernel
theorem dX2_addHighest_40 : decode cX2_addHighest 40 = .ok (.invokevirtual 23, 3) := by decide +kernel
theorem dX2_addHighest_43 : decode cX2_addHighest 43 = .ok (.iload_n 2, 1) := by decide +kernel
theorem dX2_addHighest_44 : decode cX2_addHighest 44 = .ok (.lshl, 1) := by decide +kernel
theorem dX2_addHighest_45 : decode cX2_addHighest 45 = .ok (.lstore 7, 2) := by decide +kernel
theorem dX2_addHighest_47 : decode cX2_addHighest 47 = .ok (.aload_n 0, 1) := by decide +kernel
theorem dX2_addHighest_48 : decode cX2_addHighest 48 = .ok (.iload_n 3, 1) := by decide +kernel
theorem dX2_addHighest_49 : decode cX2_addHighest 49 = .ok (.iload 4, 2) := by decide +kernel
theorem dX2_addHighest_51 : decode cX2_addHighest 51 = .ok (.lload 5, 2) := by decide +kernel
theorem dX2_addHighest_53 : decode cX2_addHighest 53 = .ok (.lload 7, 2) := by decide +kernel
theorem dX2_addHighest_55 : decode cX2_addHighest 55 = .ok (.lor, 1) := by decide +kernel
theorem dX2_addHighest_56 : decode cX2_addHighest 56 = .ok (.invokevirtual 15, 3) := by decide +kernel
theorem dX2_addHighest_59 : decode cX2_addHighest 59 = .ok (.iinc 4 1, 3) := by decide +kernel
theorem dX2_addHighest_62 : decode cX2_addHighest 62 = .ok (.goto (-53), 3) := by decide +kernel
theorem dX2_addHighest_65 : decode cX2_addHighest 65 = .ok (.return_, 1) := by decide +kernel
theorem dX2_sumsOf_0 : decode cX2_sumsOf 0 = .ok (.iload_n 1, 1) := by decide +kernel
theorem dX2_sumsOf_1 : decode cX2_sumsOf 1 = .ok (.iconst 1, 1) := by decide +kernel
theorem dX2_sumsOf_2 : decode cX2_sumsOf 2 = .ok (.ishr, 1) := by decide +kernel
theorem dX2_sumsOf_3 : decode cX2_sumsOf 3 = .ok (.bipush 7, 2) := by decide +kernel
theorem dX2_sumsOf_5 : decode cX2_sumsOf 5 = .ok (.imul, 1) := by decide +kernel
theorem dX2_sumsOf_6 : decode cX2_sumsOf 6 = .ok (.iload_n 2, 1) := by decide +kernel
theorem dX2_sumsOf_7 : decode cX2_sumsOf 7 = .ok (.iadd, 1) := by decide +kernel
theorem dX2_sumsOf_8 : decode cX2_sumsOf 8 = .ok (.istore_n 3, 1) := by decide +kernel
theorem dX2_sumsOf_9 : decode cX2_sumsOf 9 = .ok (.iload_n 3, 1) := by decide +kernel
theorem dX2_sumsOf_10 : decode cX2_sumsOf 10 = .ok (.ifCond .lt 21, 3) := by decide +kernel
theorem dX2_sumsOf_13 : decode cX2_sumsOf 13 = .ok (.iload_n 3, 1) := by decide +kernel
theorem dX2_sumsOf_14 : decode cX2_sumsOf 14 = .ok (.aload_n 0, 1) := by decide +kernel
theorem dX2_sumsOf_15 : decode cX2_sumsOf 15 = .ok (.getfield 11, 3) := by decide +kernel
theorem dX2_sumsOf_18 : decode cX2_sumsOf 18 = .ok (.arraylength, 1) := by decide +kernel
theorem dX2_sumsOf_19 : decode cX2_sumsOf 19 = .ok (.if_icmp .ge 12, 3) := by decide +kernel
theorem dX2_sumsOf_22 : decode cX2_sumsOf 22 = .ok (.aload_n 0, 1) := by decide +kernel
theorem dX2_sumsOf_23 : decode cX2_sumsOf 23 = .ok (.getfield 11, 3) := by decide +kernel
theorem dX2_sumsOf_26 : decode cX2_sumsOf 26 = .ok (.iload_n 3, 1) := by decide +kernel
theorem dX2_sumsOf_27 : decode cX2_sumsOf 27 = .ok (.laload, 1) := by decide +kernel
theorem dX2_sumsOf_28 : decode cX2_sumsOf 28 = .ok (.goto 4, 3) := by decide +kernel
theorem dX2_sumsOf_31 : decode cX2_sumsOf 31 = .ok (.lconst 0, 1) := by decide +kernel
theorem dX2_sumsOf_32 : decode cX2_sumsOf 32 = .ok (.lreturn, 1) := by decide +kernel
theorem dX2_keepSums_0 : decode cX2_keepSums 0 = .ok (.iload_n 1, 1) := by decide +kernel
theorem dX2_keepSums_1 : decode cX2_keepSums 1 = .ok (.iconst 1, 1) := by decide +kernel
theorem dX2_keepSums_2 : decode cX2_keepSums 2 = .ok (.ishr, 1) := by decide +kernel
theorem dX2_keepSums_3 : decode cX2_keepSums 3 = .ok (.bipush 7, 2) := by decide +kernel
theorem dX2_keepSums_5 : decode cX2_keepSums 5 = .ok (.imul, 1) := by decide +kernel
theorem dX2_keepSums_6 : decode cX2_keepSums 6 = .ok (.iload_n 2, 1) := by decide +kernel
theorem dX2_keepSums_7 : decode cX2_keepSums 7 = .ok (.iadd, 1) := by decide +kernel
theorem dX2_keepSums_8 : decode cX2_keepSums 8 = .ok (.istore 5, 2) := by decide +kernel
theorem dX2_keepSums_10 : decode cX2_keepSums 10 = .ok (.iload 5, 2) := by decide +kernel
theorem dX2_keepSums_12 : decode cX2_keepSums 12 = .ok (.ifCond .lt 21, 3) := by decide +kernel
theorem dX2_keepSums_15 : decode cX2_keepSums 15 = .ok (.iload 5, 2) := by decide +kernel
theorem dX2_keepSums_17 : decode cX2_keepSums 17 = .ok (.aload_n 0, 1) := by decide +kernel
theorem dX2_keepSums_18 : decode cX2_keepSums 18 = .ok (.getfield 11, 3) := by decide +kernel
theorem dX2_keepSums_21 : decode cX2_keepSums 21 = .ok (.arraylength, 1) := by decide +kernel
theorem dX2_keepSums_22 : decode cX2_keepSums 22 = .ok (.if_icmp .ge 11, 3) := by decide +kernel
theorem dX2_keepSums_25 : decode cX2_keepSums 25 = .ok (.aload_n 0, 1) := by decide +kernel
theorem dX2_keepSums_26 : decode cX2_keepSums 26 = .ok (.getfield 11, 3) := by decide +kernel
theorem dX2_keepSums_29 : decode cX2_keepSums 29 = .ok (.iload 5, 2) := by decide +kernel
theorem dX2_keepSums_31 : decode cX2_keepSums 31 = .ok (.lload_n 3, 1) := by decide +kernel
theorem dX2_keepSums_32 : decode cX2_keepSums 32 = .ok (.lastore, 1) := by decide +kernel
theorem dX2_keepSums_33 : decode cX2_keepSums 33 = .ok (.return_, 1) := by decide +kernel
