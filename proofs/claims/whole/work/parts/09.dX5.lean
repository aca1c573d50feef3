theorem dX5_init_0 : decode cX5_init 0 = .ok (.aload_n 0, 1) := by decide +kernel
theorem dX5_init_1 : decode cX5_init 1 = .ok (.invokespecial 1, 3) := by decide +kernel
theorem dX5_init_4 : decode cX5_init 4 = .ok (.aload_n 0, 1) := by decide +kernel
theorem dX5_init_5 : decode cX5_init 5 = .ok (.iconst 4, 1) := by decide +kernel
theorem dX5_init_6 : decode cX5_init 6 = .ok (.putfield 7, 3) := by decide +kernel
theorem dX5_init_9 : decode cX5_init 9 = .ok (.aload_n 0, 1) := by decide +kernel
theorem dX5_init_10 : decode cX5_init 10 = .ok (.iconst 4, 1) := by decide +kernel
theorem dX5_init_11 : decode cX5_init 11 = .ok (.putfield 13, 3) := by decide +kernel
theorem dX5_init_14 : decode cX5_init 14 = .ok (.aload_n 0, 1) := by decide +kernel
theorem dX5_init_15 : decode cX5_init 15 = .ok (.bipush 36, 2) := by decide +kernel
theorem dX5_init_17 : decode cX5_init 17 = .ok (.newarray .int, 2) := by decide +kernel
theorem dX5_init_19 : decode cX5_init 19 = .ok (.putfield 16, 3) := by decide +kernel
theorem dX5_init_22 : decode cX5_init 22 = .ok (.aload_n 0, 1) := by decide +kernel
theorem dX5_init_23 : decode cX5_init 23 = .ok (.bipush 72, 2) := by decide +kernel
theorem dX5_init_25 : decode cX5_init 25 = .ok (.newarray .int, 2) := by decide +kernel
theorem dX5_init_27 : decode cX5_init 27 = .ok (.putfield 20, 3) := by decide +kernel
theorem dX5_init_30 : decode cX5_init 30 = .ok (.aload_n 0, 1) := by decide +kernel
theorem dX5_init_31 : decode cX5_init 31 = .ok (.bipush 72, 2) := by decide +kernel
theorem dX5_init_33 : decode cX5_init 33 = .ok (.newarray .int, 2) := by decide +kernel
theorem dX5_init_35 : decode cX5_init 35 = .ok (.putfield 23, 3) := by decide +kernel
theorem dX5_init_38 : decode cX5_init 38 = .ok (.aload_n 0, 1) := by decide +kernel
theorem dX5_init_39 : decode cX5_init 39 = .ok (.sipush 512, 3) := by decide +kernel
theorem dX5_init_42 : decode cX5_init 42 = .ok (.newarray .int, 2) := by decide +kernel
theorem dX5_init_44 : decode cX5_init 44 = .ok (.putfield 26, 3) := by decide +kernel
theorem dX5_init_47 : decode cX5_init 47 = .ok (.aload_n 0, 1) := by decide +kernel
theorem dX5_init_48 : decode cX5_init 48 = .ok (.sipush 461, 3) := by decide +kernel
theorem dX5_init_51 : decode cX5_init 51 = .ok (.newarray .int, 2) := by decide +kernel
theorem dX5_init_53 : decode cX5_init 53 = .ok (.putfield 29, 3) := by decide +kernel
theorem dX5_init_56 : decode cX5_init 56 = .ok (.aload_n 0, 1) := by decide +kernel
theorem dX5_init_57 : decode cX5_init 57 = .ok (.bipush 36, 2) := by decide +kernel
theorem dX5_init_59 : decode cX5_init 59 = .ok (.newarray .int, 2) := by decide +kernel
theorem dX5_init_61 : decode cX5_init 61 = .ok (.putfield 32, 3) := by decide +kernel
theorem dX5_init_64 : decode cX5_init 64 = .ok (.iconst 0, 1) := by decide +kernel
theorem dX5_init_65 : decode cX5_init 65 = .ok (.istore_n 1, 1) := by decide +kernel
theorem dX5_init_66 : decode cX5_init 66 = .ok (.iconst 0, 1) := by decide +kernel
theorem dX5_init_67 : decode cX5_init 67 = .ok (.istore_n 2, 1) := by decide +kernel
theorem dX5_init_68 : decode cX5_init 68 = .ok (.iload_n 2, 1) := by decide +kernel
theorem dX5_init_69 : decode cX5_init 69 = .ok (.sipush 460, 3) := by decide +kernel
theorem dX5_init_72 : decode cX5_init 72 = .ok (.if_icmp .ge 66, 3) := by decide +kernel
theorem dX5_init_75 : decode cX5_init 75 = .ok (.aload_n 0, 1) := by decide +kernel
theorem dX5_init_76 : decode cX5_init 76 = .ok (.getfield 29, 3) := by decide +kernel
theorem dX5_init_79 : decode cX5_init 79 = .ok (.iload_n 2, 1) := by decide +kernel
theorem dX5_init_80 : decode cX5_init 80 = .ok (.iload_n 1, 1) := by decide +kernel
theorem dX5_init_81 : decode cX5_init 81 = .ok (.iastore, 1) := by decide +kernel
theorem dX5_init_82 : decode cX5_init 82 = .ok (.iconst 0, 1) := by decide +kernel
theorem dX5_init_83 : decode cX5_init 83 = .ok (.istore_n 3, 1) := by decide +kernel
theorem dX5_init_84 : decode cX5_init 84 = .ok (.iload_n 3, 1) := by decide +kernel
theorem dX5_init_85 : decode cX5_init 85 = .ok (.sipush 1024, 3) := by decide +kernel
theorem dX5_init_88 : decode cX5_init 88 = .ok (.if_icmp .ge 44, 3) := by decide +kernel
theorem dX5_init_91 : decode cX5_init 91 = .ok (.iload_n 3, 1) := by decide +kernel
theorem dX5_init_92 : decode cX5_init 92 = .ok (.invokestatic 35, 3) := by decide +kernel
theorem dX5_init_95 : decode cX5_init 95 = .ok (.iload_n 2, 1) := by decide +kernel
theorem dX5_init_96 : decode cX5_init 96 = .ok (.bipush 46, 2) := by decide +kernel
theorem dX5_init_98 : decode cX5_init 98 = .ok (.idiv, 1) := by decide +kernel
theorem dX5_init_99 : decode cX5_init 99 = .ok (.if_icmp .ne 27, 3) := by decide +kernel
theorem dX5_init_102 : decode cX5_init 102 = .ok (.iload_n 3, 1) := by decide +kernel
theorem dX5_init_103 : decode cX5_init 103 = .ok (.invokestatic 41, 3) := by decide +kernel
theorem dX5_init_106 : decode cX5_init 106 = .ok (.iload_n 2, 1) := by decide +kernel
theorem dX5_init_107 : decode cX5_init 107 = .ok (.bipush 46, 2) := by decide +kernel
theorem dX5_init_109 : decode cX5_init 109 = .ok (.irem, 1) := by decide +kernel
theorem dX5_init_110 : decode cX5_init 110 = .ok (.if_icmp .eq 6, 3) := by decide +kernel
theorem dX5_init_113 : decode cX5_init 113 = .ok (.goto 13, 3) := by decide +kernel
theorem dX5_init_116 : decode cX5_init 116 = .ok (.aload_n 0, 1) := by decide +kernel
theorem dX5_init_117 : decode cX5_init 117 = .ok (.getfield 26, 3) := by decide +kernel
theorem dX5_init_120 : decode cX5_init 120 = .ok (.iload_n 1, 1) := by decide +kernel
theorem dX5_init_121 : decode cX5_init 121 = .ok (.iload_n 3, 1) := by decide +kernel
theorem dX5_init_122 : decode cX5_init 122 = .ok (.iastore, 1) := by decide +kernel
theorem dX5_init_123 : decode cX5_init 123 = .ok (.iinc 1 1, 3) := by decide +kernel
theorem dX5_init_126 : decode cX5_init 126 = .ok (.iinc 3 2, 3) := by decide +kernel
theorem dX5_init_129 : decode cX5_init 129 = .ok (.goto (-45), 3) := by decide +kernel
theorem dX5_init_132 : decode cX5_init 132 = .ok (.iinc 2 1, 3) := by decide +kernel
theorem dX5_init_135 : decode cX5_init 135 = .ok (.goto (-67), 3) := by decide +kernel
theorem dX5_init_138 : decode cX5_init 138 = .ok (.aload_n 0, 1) := by decide +kernel
theorem dX5_init_139 : decode cX5_init 139 = .ok (.getfield 29, 3) := by decide +kernel
theorem dX5_init_142 : decode cX5_init 142 = .ok (.sipush 460, 3) := by decide +kernel
theorem dX5_init_145 : decode cX5_init 145 = .ok (.iload_n 1, 1) := by decide +kernel
theorem dX5_init_146 : decode cX5_init 146 = .ok (.iastore, 1) := by decide +kernel
theorem dX5_init_147 : decode cX5_init 147 = .ok (.aload_n 0, 1) := by decide +kernel
theorem dX5_init_148 : decode cX5_init 148 = .ok (.invokevirtual 44, 3) := by decide +kernel
theorem dX5_init_151 : decode cX5_init 151 = .ok (.return_, 1) := by decide +kernel
theorem dX5_thrown_0 : decode cX5_thrown 0 = .ok (.aload_n 0, 1) := by decide +kernel
theorem dX5_thrown_1 : decode cX5_thrown 1 = .ok (.getfield 47, 3) := by decide +kernel
theorem dX5_thrown_4 : decode cX5_thrown 4 = .ok (.ireturn, 1) := by decide +kernel
theorem dX5_no_0 : decode cX5_no 0 = .ok (.aload_n 0, 1) := by decide +kernel
theorem dX5_no_1 : decode cX5_no 1 = .ok (.iload_n 1, 1) := by decide +kernel
theorem dX5_no_2 : decode cX5_no 2 = .ok (.putfield 47, 3) := by decide +kernel
theorem dX5_no_5 : decode cX5_no 5 = .ok (.iconst 0, 1) := by decide +kernel
theorem dX5_no_6 : decode cX5_no 6 = .ok (.ireturn, 1) := by decide +kernel
theorem dX5_isIn_0 : decode cX5_isIn 0 = .ok (.iload_n 0, 1) := by decide +kernel
theorem dX5_isIn_1 : decode cX5_isIn 1 = .ok (.iload_n 1, 1) := by decide +kernel
theorem dX5_isIn_2 : decode cX5_isIn 2 = .ok (.if_icmp .lt 12, 3) := by decide +kernel
theorem dX5_isIn_5 : decode cX5_isIn 5 = .ok (.iload_n 0, 1) := by decide +kernel
theorem dX5_isIn_6 : decode cX5_isIn 6 = .ok (.iload_n 2, 1) := by decide +kernel
theorem dX5_isIn_7 : decode cX5_isIn 7 = .ok (.if_icmp .gt 7, 3) := by decide +kernel
theorem dX5_isIn_10 : decode cX5_isIn 10 = .ok (.iconst 1, 1) := by decide +kernel
theorem dX5_isIn_11 : decode cX5_isIn 11 = .ok (.goto 4, 3) := by decide +kernel
theorem dX5_isIn_14 : decode cX5_isIn 14 = .ok (.iconst 0, 1) := by decide +kernel
theorem dX5_isIn_15 : decode cX5_isIn 15 = .ok (.ireturn, 1) := by decide +kernel
set_option maxRecDepth 20000 in
theorem ggX5_isCell_X5_isIn : GoodIn wsX5_isCell wsX5_isIn := goodIn_r _ [6] (by decide +kernel) (by decide +kernel)
set_option maxRecDepth 20000 in
theorem gX5_isCell_X5_isIn : GoodIn wsX5_isCell (va_wsS RX5 50 yX5_isIn wsX5_isIn) := goodIn_app (goodIn_of _ (by decide +kernel)) ggX5_isCell_X5_isIn
theorem dX5_isCell_0 : decode cX5_isCell 0 = .ok (.iload_n 1, 1) := by decide +kernel
theorem dX5_isCell_1 : decode cX5_isCell 1 = .ok (.iconst 0, 1) := by decide +kernel
theorem dX5_isCell_2 : decode cX5_isCell 2 = .ok (.aload_n 0, 1) := by decide +kernel
theorem dX5_isCell_3 : decode cX5_isCell 3 = .ok (.getfield 7, 3) := by decide +kernel
theorem dX5_isCell_6 : decode cX5_isCell 6 = .ok (.aload_n 0, 1) := by decide +kernel
theorem dX5_isCell_7 : decode cX5_isCell 7 = .ok (.getfield 13, 3) := by decide +kernel
theorem dX5_isCell_10 : decode cX5_isCell 10 = .ok (.imul, 1) := by decide +kernel
theorem dX5_isCell_11 : decode cX5_isCell 11 = .ok (.iconst 1, 1) := by decide +kernel
theorem dX5_isCell_12 : decode cX5_isCell 12 = .ok (.isub, 1) := by decide +kernel
theorem dX5_isCell_13 : decode cX5_isCell 13 = .ok (.invokestatic 50, 3) := by decide +kernel
theorem dX5_isCell_16 : decode cX5_isCell 16 = .ok (.ireturn, 1) := by decide +kernel
theorem dX5_sumOf_0 : decode cX5_sumOf 0 = .ok (.iconst 0, 1) := by decide +kernel
theorem dX5_sumOf_1 : decode cX5_sumOf 1 = .ok (.istore_n 1, 1) := by decide +kernel
theorem dX5_sumOf_2 : decode cX5_sumOf 2 = .ok (.iconst 1, 1) := by decide +kernel
theorem dX5_sumOf_3 : decode cX5_sumOf 3 = .ok (.istore_n 2, 1) := by decide +kernel
theorem dX5_sumOf_4 : decode cX5_sumOf 4 = .ok (.iload_n 2, 1) := by decide +kernel
theorem dX5_sumOf_5 : decode cX5_sumOf 5 = .ok (.bipush 9, 2) := by decide +kernel
theorem dX5_sumOf_7 : decode cX5_sumOf 7 = .ok (.if_icmp .gt 19, 3) := by decide +kernel
theorem dX5_sumOf_10 : decode cX5_sumOf 10 = .ok (.iload_n 1, 1) := by decide +kernel
theorem dX5_sumOf_11 : decode cX5_sumOf 11 = .ok (.iload_n 0, 1) := by decide +kernel
theorem dX5_sumOf_12 : decode cX5_sumOf 12 = .ok (.iload_n 2, 1) := by decide +kernel
theorem dX5_sumOf_13 : decode cX5_sumOf 13 = .ok (.ishr, 1) := by decide +kernel
theorem dX5_sumOf_14 : decode cX5_sumOf 14 = .ok (.iconst 1, 1) := by decide +kernel
theorem dX5_sumOf_15 : decode cX5_sumOf 15 = .ok (.iand, 1) := by decide +kernel
theorem dX5_sumOf_16 : decode cX5_sumOf 16 = .ok (.iload_n 2, 1) := by decide +kernel
theorem dX5_sumOf_17 : decode cX5_sumOf 17 = .ok (.imul, 1) := by decide +kernel
theorem dX5_sumOf_18 : decode cX5_sumOf 18 = .ok (.iadd, 1) := by decide +kernel
theorem dX5_sumOf_19 : decode cX5_sumOf 19 = .ok (.istore_n 1, 1) := by decide +kernel
theorem dX5_sumOf_20 : decode cX5_sumOf 20 = .ok (.iinc 2 1, 3) := by decide +kernel
theorem dX5_sumOf_23 : decode cX5_sumOf 23 = .ok (.goto (-19), 3) := by decide +kernel
theorem dX5_sumOf_26 : decode cX5_sumOf 26 = .ok (.iload_n 1, 1) := by decide +kernel
theorem dX5_sumOf_27 : decode cX5_sumOf 27 = .ok (.ireturn, 1) := by decide +kernel
theorem dX5_behind_0 : decode cX5_behind 0 = .ok (.iload_n 2, 1) := by decide +kernel
theorem dX5_behind_1 : decode cX5_behind 1 = .ok (.iconst 1, 1) := by decide +kernel
theorem dX5_behind_2 : decode cX5_behind 2 = .ok (.if_icmp .ne 32, 3) := by decide +kernel
theorem dX5_behind_5 : decode cX5_behind 5 = .ok (.iload_n 1, 1) := by decide +kernel
theorem dX5_behind_6 : decode cX5_behind 6 = .ok (.aload_n 0, 1) := by decide +kernel
theorem dX5_behind_7 : decode cX5_behind 7 = .ok (.getfield 7, 3) := by decide +kernel
theorem dX5_behind_10 : decode cX5_behind 10 = .ok (.iadd, 1) := by decide +kernel
theorem dX5_behind_11 : decode cX5_behind 11 = .ok (.aload_n 0, 1) := by decide +kernel
theorem dX5_behind_12 : decode cX5_behind 12 = .ok (.getfield 7, 3) := by decide +kernel
theorem dX5_behind_15 : decode cX5_behind 15 = .ok (.aload_n 0, 1) := by decide +kernel
theorem dX5_behind_16 : decode cX5_behind 16 = .ok (.getfield 13, 3) := by decide +kernel
theorem dX5_behind_19 : decode cX5_behind 19 = .ok (.imul, 1) := by decide +kernel
theorem dX5_behind_20 : decode cX5_behind 20 = .ok (.if_icmp .ge 12, 3) := by decide +kernel
theorem dX5_behind_23 : decode cX5_behind 23 = .ok (.iload_n 1, 1) := by decide +kernel
theorem dX5_behind_24 : decode cX5_behind 24 = .ok (.aload_n 0, 1) := by decide +kernel
theorem dX5_behind_25 : decode cX5_behind 25 = .ok (.getfield 7, 3) := by decide +kernel
theorem dX5_behind_28 : decode cX5_behind 28 = .ok (.iadd, 1) := by decide +kernel
theorem dX5_behind_29 : decode cX5_behind 29 = .ok (.goto 4, 3) := by decide +kernel
theorem dX5_behind_32 : decode cX5_behind 32 = .ok (.iconst (-1), 1) := by decide +kernel
theorem dX5_behind_33 : decode cX5_behind 33 = .ok (.ireturn, 1) := by decide +kernel
theorem dX5_behind_34 : decode cX5_behind 34 = .ok (.iload_n 1, 1) := by decide +kernel
theorem dX5_behind_35 : decode cX5_behind 35 = .ok (.aload_n 0, 1) := by decide +kernel
theorem dX5_behind_36 : decode cX5_behind 36 = .ok (.getfield 7, 3) := by decide +kernel
theorem dX5_behind_39 : decode cX5_behind 39 = .ok (.irem, 1) := by decide +kernel
theorem dX5_behind_40 : decode cX5_behind 40 = .ok (.iconst 1, 1) := by decide +kernel
theorem dX5_behind_41 : decode cX5_behind 41 = .ok (.iadd, 1) := by decide +kernel
theorem dX5_behind_42 : decode cX5_behind 42 = .ok (.aload_n 0, 1) := by decide +kernel
theorem dX5_behind_43 : decode cX5_behind 43 = .ok (.getfield 7, 3) := by decide +kernel
theorem dX5_behind_46 : decode cX5_behind 46 = .ok (.if_icmp .ge 9, 3) := by decide +kernel
theorem dX5_behind_49 : decode cX5_behind 49 = .ok (.iload_n 1, 1) := by decide +kernel
theorem dX5_behind_50 : decode cX5_behind 50 = .ok (.iconst 1, 1) := by decide +kernel
theorem dX5_behind_51 : decode cX5_behind 51 = .ok (.iadd, 1) := by decide +kernel
theorem dX5_behind_52 : decode cX5_behind 52 = .ok (.goto 4, 3) := by decide +kernel
theorem dX5_behind_55 : decode cX5_behind 55 = .ok (.iconst (-1), 1) := by decide +kernel
theorem dX5_behind_56 : decode cX5_behind 56 = .ok (.ireturn, 1) := by decide +kernel
theorem dX5_link_0 : decode cX5_link 0 = .ok (.iconst 0, 1) := by decide +kernel
theorem dX5_link_1 : decode cX5_link 1 = .ok (.istore_n 1, 1) := by decide +kernel
theorem dX5_link_2 : decode cX5_link 2 = .ok (.iload_n 1, 1) := by decide +kernel
theorem dX5_link_3 : decode cX5_link 3 = .ok (.iconst 1, 1) := by decide +kernel
theorem dX5_link_4 : decode cX5_link 4 = .ok (.if_icmp .gt 101, 3) := by decide +kernel
theorem dX5_link_7 : decode cX5_link 7 = .ok (.iconst 0, 1) := by decide +kernel
theorem dX5_link_8 : decode cX5_link 8 = .ok (.istore_n 2, 1) := by decide +kernel
theorem dX5_link_9 : decode cX5_link 9 = .ok (.iload_n 2, 1) := by decide +kernel
theorem dX5_link_10 : decode cX5_link 10 = .ok (.aload_n 0, 1) := by decide +kernel
theorem dX5_link_11 : decode cX5_link 11 = .ok (.getfield 7, 3) := by decide +kernel
theorem dX5_link_14 : decode cX5_link 14 = .ok (.aload_n 0, 1) := by decide +kernel
theorem dX5_link_15 : decode cX5_link 15 = .ok (.getfield 13, 3) := by decide +kernel
theorem dX5_link_18 : decode cX5_link 18 = .ok (.imul, 1) := by decide +kernel
theorem dX5_link_19 : decode cX5_link 19 = .ok (.if_icmp .ge 80, 3) := by decide +kernel
theorem dX5_link_22 : decode cX5_link 22 = .ok (.iload_n 1, 1) := by decide +kernel
theorem dX5_link_23 : decode cX5_link 23 = .ok (.iconst 1, 1) := by decide +kernel
theorem dX5_link_24 : decode cX5_link 24 = .ok (.if_icmp .ne 12, 3) := by decide +kernel
theorem dX5_link_27 : decode cX5_link 27 = .ok (.iload_n 2, 1) := by decide +kernel
theorem dX5_link_28 : decode cX5_link 28 = .ok (.aload_n 0, 1) := by decide +kernel
theorem dX5_link_29 : decode cX5_link 29 = .ok (.getfield 7, 3) := by decide +kernel
theorem dX5_link_32 : decode cX5_link 32 = .ok (.isub, 1) := by decide +kernel
theorem dX5_link_33 : decode cX5_link 33 = .ok (.goto 19, 3) := by decide +kernel
theorem dX5_link_36 : decode cX5_link 36 = .ok (.iload_n 2, 1) := by decide +kernel
theorem dX5_link_37 : decode cX5_link 37 = .ok (.aload_n 0, 1) := by decide +kernel
theorem dX5_link_38 : decode cX5_link 38 = .ok (.getfield 7, 3) := by decide +kernel
theorem dX5_link_41 : decode cX5_link 41 = .ok (.irem, 1) := by decide +kernel
theorem dX5_link_42 : decode cX5_link 42 = .ok (.ifCond .ne 7, 3) := by decide +kernel
theorem dX5_link_45 : decode cX5_link 45 = .ok (.iconst (-1), 1) := by decide +kernel
theorem dX5_link_46 : decode cX5_link 46 = .ok (.goto 6, 3) := by decide +kernel
theorem dX5_link_49 : decode cX5_link 49 = .ok (.iload_n 2, 1) := by decide +kernel
theorem dX5_link_50 : decode cX5_link 50 = .ok (.iconst 1, 1) := by decide +kernel
theorem dX5_link_51 : decode cX5_link 51 = .ok (.isub, 1) := by decide +kernel
theorem dX5_link_52 : decode cX5_link 52 = .ok (.istore_n 3, 1) := by decide +kernel
theorem dX5_link_53 : decode cX5_link 53 = .ok (.aload_n 0, 1) := by decide +kernel
theorem dX5_link_54 : decode cX5_link 54 = .ok (.getfield 23, 3) := by decide +kernel
theorem dX5_link_57 : decode cX5_link 57 = .ok (.bipush 36, 2) := by decide +kernel
theorem dX5_link_59 : decode cX5_link 59 = .ok (.iload_n 1, 1) := by decide +kernel
theorem dX5_link_60 : decode cX5_link 60 = .ok (.imul, 1) := by decide +kernel
theorem dX5_link_61 : decode cX5_link 61 = .ok (.iload_n 2, 1) := by decide +kernel
theorem dX5_link_62 : decode cX5_link 62 = .ok (.iadd, 1) := by decide +kernel
theorem dX5_link_63 : decode cX5_link 63 = .ok (.iload_n 3, 1) := by decide +kernel
theorem dX5_link_64 : decode cX5_link 64 = .ok (.ifCond .lt 13, 3) := by decide +kernel
theorem dX5_link_67 : decode cX5_link 67 = .ok (.aload_n 0, 1) := by decide +kernel
theorem dX5_link_68 : decode cX5_link 68 = .ok (.getfield 16, 3) := by decide +kernel
theorem dX5_link_71 : decode cX5_link 71 = .ok (.iload_n 3, 1) := by decide +kernel
theorem dX5_link_72 : decode cX5_link 72 = .ok (.iaload, 1) := by decide +kernel
theorem dX5_link_73 : decode cX5_link 73 = .ok (.iconst (-1), 1) := by decide +kernel
theorem dX5_link_74 : decode cX5_link 74 = .ok (.if_icmp .ne 7, 3) := by decide +kernel
theorem dX5_link_77 : decode cX5_link 77 = .ok (.iload_n 2, 1) := by decide +kernel
theorem dX5_link_78 : decode cX5_link 78 = .ok (.goto 14, 3) := by decide +kernel
theorem dX5_link_81 : decode cX5_link 81 = .ok (.aload_n 0, 1) := by decide +kernel
theorem dX5_link_82 : decode cX5_link 82 = .ok (.getfield 23, 3) := by decide +kernel
theorem dX5_link_85 : decode cX5_link 85 = .ok (.bipush 36, 2) := by decide +kernel
theorem dX5_link_87 : decode cX5_link 87 = .ok (.iload_n 1, 1) := by decide +kernel
theorem dX5_link_88 : decode cX5_link 88 = .ok (.imul, 1) := by decide +kernel
theorem dX5_link_89 : decode cX5_link 89 = .ok (.iload_n 3, 1) := by decide +kernel
theorem dX5_link_90 : decode cX5_link 90 = .ok (.iadd, 1) := by decide +kernel
theorem dX5_link_91 : decode cX5_link 91 = .ok (.iaload, 1) := by decide +kernel
theorem dX5_link_92 : decode cX5_link 92 = .ok (.iastore, 1) := by decide +kernel
theorem dX5_link_93 : decode cX5_link 93 = .ok (.iinc 2 1, 3) := by decide +kernel
theorem dX5_link_96 : decode cX5_link 96 = .ok (.goto (-87), 3) := by decide +kernel
theorem dX5_link_99 : decode cX5_link 99 = .ok (.iinc 1 1, 3) := by decide +kernel
theorem dX5_link_102 : decode cX5_link 102 = .ok (.goto (-100), 3) := by decide +kernel
theorem dX5_link_105 : decode cX5_link 105 = .ok (.return_, 1) := by decide +kernel
theorem dX5_beginOf_0 : decode cX5_beginOf 0 = .ok (.aload_n 0, 1) := by decide +kernel
theorem dX5_beginOf_1 : decode cX5_beginOf 1 = .ok (.getfield 23, 3) := by decide +kernel
theorem dX5_beginOf_4 : decode cX5_beginOf 4 = .ok (.bipush 36, 2) := by decide +kernel
theorem dX5_beginOf_6 : decode cX5_beginOf 6 = .ok (.iload_n 2, 1) := by decide +kernel
theorem dX5_beginOf_7 : decode cX5_beginOf 7 = .ok (.imul, 1) := by decide +kernel
theorem dX5_beginOf_8 : decode cX5_beginOf 8 = .ok (.iload_n 1, 1) := by decide +kernel
theorem dX5_beginOf_9 : decode cX5_beginOf 9 = .ok (.iadd, 1) := by decide +kernel
theorem dX5_beginOf_10 : decode cX5_beginOf 10 = .ok (.iaload, 1) := by decide +kernel
theorem dX5_beginOf_11 : decode cX5_beginOf 11 = .ok (.ireturn, 1) := by decide +kernel
theorem dX5_isOpen_0 : decode cX5_isOpen 0 = .ok (.iload_n 1, 1) := by decide +kernel
theorem dX5_isOpen_1 : decode cX5_isOpen 1 = .ok (.iconst (-1), 1) := by decide +kernel
theorem dX5_isOpen_2 : decode cX5_isOpen 2 = .ok (.if_icmp .eq 17, 3) := by decide +kernel
theorem dX5_isOpen_5 : decode cX5_isOpen 5 = .ok (.aload_n 0, 1) := by decide +kernel
theorem dX5_isOpen_6 : decode cX5_isOpen 6 = .ok (.getfield 16, 3) := by decide +kernel
theorem dX5_isOpen_9 : decode cX5_isOpen 9 = .ok (.iload_n 1, 1) := by decide +kernel
theorem dX5_isOpen_10 : decode cX5_isOpen 10 = .ok (.iaload, 1) := by decide +kernel
theorem dX5_isOpen_11 : decode cX5_isOpen 11 = .ok (.iconst (-1), 1) := by decide +kernel
theorem dX5_isOpen_12 : decode cX5_isOpen 12 = .ok (.if_icmp .eq 7, 3) := by decide +kernel
theorem dX5_isOpen_15 : decode cX5_isOpen 15 = .ok (.iconst 1, 1) := by decide +kernel
theorem dX5_isOpen_16 : decode cX5_isOpen 16 = .ok (.goto 4, 3) := by decide +kernel
theorem dX5_isOpen_19 : decode cX5_isOpen 19 = .ok (.iconst 0, 1) := by decide +kernel
theorem dX5_isOpen_20 : decode cX5_isOpen 20 = .ok (.ireturn, 1) := by decide +kernel
set_option maxRecDepth 20000 in
theorem ggX5_isWell_X5_beginOf : GoodIn wsX5_isWell wsX5_beginOf := goodIn_r _ [7, 8, 28, 29, 30, 31, 32, 33, 34, 35, 36, 37, 38, 39] (by decide +kernel) (by decide +kernel)
set_option maxRecDepth 20000 in
theorem gX5_isWell_X5_beginOf : GoodIn wsX5_isWell (wsV RX5 54 RX5 yX5_beginOf wsX5_beginOf) := goodIn_app (goodIn_of _ (by decide +kernel)) ggX5_isWell_X5_beginOf
set_option maxRecDepth 20000 in
theorem ggX5_isWell_X5_isOpen : GoodIn wsX5_isWell wsX5_isOpen := goodIn_r _ [12, 1, 28, 29, 30, 31, 32, 33, 34, 35, 36, 37, 38, 39] (by decide +kernel) (by decide +kernel)
set_option maxRecDepth 20000 in
theorem gX5_isWell_X5_isOpen : GoodIn wsX5_isWell (wsV RX5 58 RX5 yX5_isOpen wsX5_isOpen) := goodIn_app (goodIn_of _ (by decide +kernel)) ggX5_isWell_X5_isOpen
set_option maxRecDepth 20000 in
theorem ggX5_isWell_X5_behind : GoodIn wsX5_isWell wsX5_behind := goodIn_r _ [16, 17, 18, 28, 29, 30, 31, 32, 33, 34, 35, 36, 37, 38, 39] (by decide +kernel) (by decide +kernel)
set_option maxRecDepth 20000 in
theorem gX5_isWell_X5_behind : GoodIn wsX5_isWell (wsV RX5 62 RX5 yX5_behind wsX5_behind) := goodIn_app (goodIn_of _ (by decide +kernel)) ggX5_isWell_X5_behind
set_option maxRecDepth 20000 in
theorem ggX5_isWell_X5_sumOf : GoodIn wsX5_isWell wsX5_sumOf := goodIn_r _ [21] (by decide +kernel) (by decide +kernel)
set_option maxRecDepth 20000 in
theorem gX5_isWell_X5_sumOf : GoodIn wsX5_isWell (va_wsS RX5 41 yX5_sumOf wsX5_sumOf) := goodIn_app (goodIn_of _ (by decide +kernel)) ggX5_isWell_X5_sumOf
set_option maxRecDepth 20000 in
theorem ggX5_isWell_X5_isMade : GoodIn wsX5_isWell wsX5_isMade := goodIn_r _ [25, 26, 27, 28, 29, 30, 31, 32, 33, 34, 35, 36, 37, 38, 39] (by decide +kernel) (by decide +kernel)
set_option maxRecDepth 20000 in
theorem gX5_isWell_X5_isMade : GoodIn wsX5_isWell (wsV RX5 65 RX5 yX5_isMade wsX5_isMade) := goodIn_app (goodIn_of _ (by decide +kernel)) ggX5_isWell_X5_isMade
theorem dX5_isWell_0 : decode cX5_isWell 0 = .ok (.aload_n 0, 1) := by decide +kernel
theorem dX5_isWell_1 : decode cX5_isWell 1 = .ok (.iload_n 1, 1) := by decide +kernel
theorem dX5_isWell_2 : decode cX5_isWell 2 = .ok (.iload_n 2, 1) := by decide +kernel
theorem dX5_isWell_3 : decode cX5_isWell 3 = .ok (.invokevirtual 54, 3) := by decide +kernel
theorem dX5_isWell_6 : decode cX5_isWell 6 = .ok (.istore_n 3, 1) := by decide +kernel
theorem dX5_isWell_7 : decode cX5_isWell 7 = .ok (.iconst 0, 1) := by decide +kernel
theorem dX5_isWell_8 : decode cX5_isWell 8 = .ok (.istore 4, 2) := by decide +kernel
theorem dX5_isWell_10 : decode cX5_isWell 10 = .ok (.iconst 0, 1) := by decide +kernel
theorem dX5_isWell_11 : decode cX5_isWell 11 = .ok (.istore 5, 2) := by decide +kernel
theorem dX5_isWell_13 : decode cX5_isWell 13 = .ok (.iload_n 3, 1) := by decide +kernel
theorem dX5_isWell_14 : decode cX5_isWell 14 = .ok (.istore 6, 2) := by decide +kernel
theorem dX5_isWell_16 : decode cX5_isWell 16 = .ok (.aload_n 0, 1) := by decide +kernel
theorem dX5_isWell_17 : decode cX5_isWell 17 = .ok (.iload 6, 2) := by decide +kernel
theorem dX5_isWell_19 : decode cX5_isWell 19 = .ok (.invokevirtual 58, 3) := by decide +kernel
theorem dX5_isWell_22 : decode cX5_isWell 22 = .ok (.ifCond .eq 72, 3) := by decide +kernel
theorem dX5_isWell_25 : decode cX5_isWell 25 = .ok (.aload_n 0, 1) := by decide +kernel
theorem dX5_isWell_26 : decode cX5_isWell 26 = .ok (.getfield 16, 3) := by decide +kernel
theorem dX5_isWell_29 : decode cX5_isWell 29 = .ok (.iload 6, 2) := by decide +kernel
theorem dX5_isWell_31 : decode cX5_isWell 31 = .ok (.iaload, 1) := by decide +kernel
theorem dX5_isWell_32 : decode cX5_isWell 32 = .ok (.ifCond .ne 7, 3) := by decide +kernel
theorem dX5_isWell_35 : decode cX5_isWell 35 = .ok (.iconst 0, 1) := by decide +kernel
theorem dX5_isWell_36 : decode cX5_isWell 36 = .ok (.goto 12, 3) := by decide +kernel
theorem dX5_isWell_39 : decode cX5_isWell 39 = .ok (.iconst 1, 1) := by decide +kernel
theorem dX5_isWell_40 : decode cX5_isWell 40 = .ok (.aload_n 0, 1) := by decide +kernel
theorem dX5_isWell_41 : decode cX5_isWell 41 = .ok (.getfield 16, 3) := by decide +kernel
theorem dX5_isWell_44 : decode cX5_isWell 44 = .ok (.iload 6, 2) := by decide +kernel
theorem dX5_isWell_46 : decode cX5_isWell 46 = .ok (.iaload, 1) := by decide +kernel
theorem dX5_isWell_47 : decode cX5_isWell 47 = .ok (.ishl, 1) := by decide +kernel
theorem dX5_isWell_48 : decode cX5_isWell 48 = .ok (.istore 7, 2) := by decide +kernel
theorem dX5_isWell_50 : decode cX5_isWell 50 = .ok (.iload 4, 2) := by decide +kernel
theorem dX5_isWell_52 : decode cX5_isWell 52 = .ok (.iload 7, 2) := by decide +kernel
theorem dX5_isWell_54 : decode cX5_isWell 54 = .ok (.iand, 1) := by decide +kernel
theorem dX5_isWell_55 : decode cX5_isWell 55 = .ok (.ifCond .eq 5, 3) := by decide +kernel
theorem dX5_isWell_58 : decode cX5_isWell 58 = .ok (.iconst 0, 1) := by decide +kernel
theorem dX5_isWell_59 : decode cX5_isWell 59 = .ok (.ireturn, 1) := by decide +kernel
theorem dX5_isWell_60 : decode cX5_isWell 60 = .ok (.iload 4, 2) := by decide +kernel
theorem dX5_isWell_62 : decode cX5_isWell 62 = .ok (.iload 7, 2) := by decide +kernel
theorem dX5_isWell_64 : decode cX5_isWell 64 = .ok (.ior, 1) := by decide +kernel
theorem dX5_isWell_65 : decode cX5_isWell 65 = .ok (.istore 4, 2) := by decide +kernel
theorem dX5_isWell_67 : decode cX5_isWell 67 = .ok (.iload 5, 2) := by decide +kernel
theorem dX5_isWell_69 : decode cX5_isWell 69 = .ok (.iload 7, 2) := by decide +kernel
theorem dX5_isWell_71 : decode cX5_isWell 71 = .ok (.ifCond .ne 7, 3) := by decide +kernel
theorem dX5_isWell_74 : decode cX5_isWell 74 = .ok (.iconst 1, 1) := by decide +kernel
theorem dX5_isWell_75 : decode cX5_isWell 75 = .ok (.goto 4, 3) := by decide +kernel
theorem dX5_isWell_78 : decode cX5_isWell 78 = .ok (.iconst 0, 1) := by decide +kernel
theorem dX5_isWell_79 : decode cX5_isWell 79 = .ok (.iadd, 1) := by decide +kernel
theorem dX5_isWell_80 : decode cX5_isWell 80 = .ok (.istore 5, 2) := by decide +kernel
theorem dX5_isWell_82 : decode cX5_isWell 82 = .ok (.aload_n 0, 1) := by decide +kernel
theorem dX5_isWell_83 : decode cX5_isWell 83 = .ok (.iload 6, 2) := by decide +kernel
theorem dX5_isWell_85 : decode cX5_isWell 85 = .ok (.iload_n 2, 1) := by decide +kernel
theorem dX5_isWell_86 : decode cX5_isWell 86 = .ok (.invokevirtual 62, 3) := by decide +kernel
theorem dX5_isWell_89 : decode cX5_isWell 89 = .ok (.istore 6, 2) := by decide +kernel
theorem dX5_isWell_91 : decode cX5_isWell 91 = .ok (.goto (-75), 3) := by decide +kernel
theorem dX5_isWell_94 : decode cX5_isWell 94 = .ok (.aload_n 0, 1) := by decide +kernel
theorem dX5_isWell_95 : decode cX5_isWell 95 = .ok (.getfield 20, 3) := by decide +kernel
theorem dX5_isWell_98 : decode cX5_isWell 98 = .ok (.bipush 36, 2) := by decide +kernel
theorem dX5_isWell_100 : decode cX5_isWell 100 = .ok (.iload_n 2, 1) := by decide +kernel
theorem dX5_isWell_101 : decode cX5_isWell 101 = .ok (.imul, 1) := by decide +kernel
theorem dX5_isWell_102 : decode cX5_isWell 102 = .ok (.iload_n 3, 1) := by decide +kernel
theorem dX5_isWell_103 : decode cX5_isWell 103 = .ok (.iadd, 1) := by decide +kernel
theorem dX5_isWell_104 : decode cX5_isWell 104 = .ok (.iaload, 1) := by decide +kernel
theorem dX5_isWell_105 : decode cX5_isWell 105 = .ok (.iload 4, 2) := by decide +kernel
theorem dX5_isWell_107 : decode cX5_isWell 107 = .ok (.invokestatic 41, 3) := by decide +kernel
theorem dX5_isWell_110 : decode cX5_isWell 110 = .ok (.isub, 1) := by decide +kernel
theorem dX5_isWell_111 : decode cX5_isWell 111 = .ok (.istore 6, 2) := by decide +kernel
theorem dX5_isWell_113 : decode cX5_isWell 113 = .ok (.aload_n 0, 1) := by decide +kernel
theorem dX5_isWell_114 : decode cX5_isWell 114 = .ok (.getfield 20, 3) := by decide +kernel
theorem dX5_isWell_117 : decode cX5_isWell 117 = .ok (.bipush 36, 2) := by decide +kernel
theorem dX5_isWell_119 : decode cX5_isWell 119 = .ok (.iload_n 2, 1) := by decide +kernel
theorem dX5_isWell_120 : decode cX5_isWell 120 = .ok (.imul, 1) := by decide +kernel
theorem dX5_isWell_121 : decode cX5_isWell 121 = .ok (.iload_n 3, 1) := by decide +kernel
theorem dX5_isWell_122 : decode cX5_isWell 122 = .ok (.iadd, 1) := by decide +kernel
theorem dX5_isWell_123 : decode cX5_isWell 123 = .ok (.iaload, 1) := by decide +kernel
theorem dX5_isWell_124 : decode cX5_isWell 124 = .ok (.ifCond .ne 5, 3) := by decide +kernel
theorem dX5_isWell_127 : decode cX5_isWell 127 = .ok (.iconst 1, 1) := by decide +kernel
theorem dX5_isWell_128 : decode cX5_isWell 128 = .ok (.ireturn, 1) := by decide +kernel
theorem dX5_isWell_129 : decode cX5_isWell 129 = .ok (.iload 6, 2) := by decide +kernel
theorem dX5_isWell_131 : decode cX5_isWell 131 = .ok (.ifCond .lt 20, 3) := by decide +kernel
theorem dX5_isWell_134 : decode cX5_isWell 134 = .ok (.aload_n 0, 1) := by decide +kernel
theorem dX5_isWell_135 : decode cX5_isWell 135 = .ok (.iload 5, 2) := by decide +kernel
theorem dX5_isWell_137 : decode cX5_isWell 137 = .ok (.iload 6, 2) := by decide +kernel
theorem dX5_isWell_139 : decode cX5_isWell 139 = .ok (.iload 4, 2) := by decide +kernel
theorem dX5_isWell_141 : decode cX5_isWell 141 = .ok (.invokevirtual 65, 3) := by decide +kernel
theorem dX5_isWell_144 : decode cX5_isWell 144 = .ok (.ifCond .eq 7, 3) := by decide +kernel
theorem dX5_isWell_147 : decode cX5_isWell 147 = .ok (.iconst 1, 1) := by decide +kernel
theorem dX5_isWell_148 : decode cX5_isWell 148 = .ok (.goto 4, 3) := by decide +kernel
theorem dX5_isWell_151 : decode cX5_isWell 151 = .ok (.iconst 0, 1) := by decide +kernel
theorem dX5_isWell_152 : decode cX5_isWell 152 = .ok (.ireturn, 1) := by decide +kernel
theorem dX5_isMade_0 : decode cX5_isMade 0 = .ok (.bipush 46, 2) := by decide +kernel
theorem dX5_isMade_2 : decode cX5_isMade 2 = .ok (.iload_n 1, 1) := by decide +kernel
theorem dX5_isMade_3 : decode cX5_isMade 3 = .ok (.imul, 1) := by decide +kernel
theorem dX5_isMade_4 : decode cX5_isMade 4 = .ok (.iload_n 2, 1) := by decide +kernel
theorem dX5_isMade_5 : decode cX5_isMade 5 = .ok (.iadd, 1) := by decide +kernel
theorem dX5_isMade_6 : decode cX5_isMade 6 = .ok (.istore 4, 2) := by decide +kernel
theorem dX5_isMade_8 : decode cX5_isMade 8 = .ok (.aload_n 0, 1) := by decide +kernel
theorem dX5_isMade_9 : decode cX5_isMade 9 = .ok (.getfield 29, 3) := by decide +kernel
theorem dX5_isMade_12 : decode cX5_isMade 12 = .ok (.iload 4, 2) := by decide +kernel
theorem dX5_isMade_14 : decode cX5_isMade 14 = .ok (.iaload, 1) := by decide +kernel
theorem dX5_isMade_15 : decode cX5_isMade 15 = .ok (.istore 5, 2) := by decide +kernel
theorem dX5_isMade_17 : decode cX5_isMade 17 = .ok (.iload 5, 2) := by decide +kernel
theorem dX5_isMade_19 : decode cX5_isMade 19 = .ok (.aload_n 0, 1) := by decide +kernel
theorem dX5_isMade_20 : decode cX5_isMade 20 = .ok (.getfield 29, 3) := by decide +kernel
theorem dX5_isMade_23 : decode cX5_isMade 23 = .ok (.iload 4, 2) := by decide +kernel
theorem dX5_isMade_25 : decode cX5_isMade 25 = .ok (.iconst 1, 1) := by decide +kernel
theorem dX5_isMade_26 : decode cX5_isMade 26 = .ok (.iadd, 1) := by decide +kernel
theorem dX5_isMade_27 : decode cX5_isMade 27 = .ok (.iaload, 1) := by decide +kernel
theorem dX5_isMade_28 : decode cX5_isMade 28 = .ok (.if_icmp .ge 23, 3) := by decide +kernel
theorem dX5_isMade_31 : decode cX5_isMade 31 = .ok (.aload_n 0, 1) := by decide +kernel
theorem dX5_isMade_32 : decode cX5_isMade 32 = .ok (.getfield 26, 3) := by decide +kernel
theorem dX5_isMade_35 : decode cX5_isMade 35 = .ok (.iload 5, 2) := by decide +kernel
theorem dX5_isMade_37 : decode cX5_isMade 37 = .ok (.iaload, 1) := by decide +kernel
theorem dX5_isMade_38 : decode cX5_isMade 38 = .ok (.iload_n 3, 1) := by decide +kernel
theorem dX5_isMade_39 : decode cX5_isMade 39 = .ok (.iand, 1) := by decide +kernel
theorem dX5_isMade_40 : decode cX5_isMade 40 = .ok (.ifCond .ne 5, 3) := by decide +kernel
theorem dX5_isMade_43 : decode cX5_isMade 43 = .ok (.iconst 1, 1) := by decide +kernel
theorem dX5_isMade_44 : decode cX5_isMade 44 = .ok (.ireturn, 1) := by decide +kernel
theorem dX5_isMade_45 : decode cX5_isMade 45 = .ok (.iinc 5 1, 3) := by decide +kernel
theorem dX5_isMade_48 : decode cX5_isMade 48 = .ok (.goto (-31), 3) := by decide +kernel
theorem dX5_isMade_51 : decode cX5_isMade 51 = .ok (.iconst 0, 1) := by decide +kernel
theorem dX5_isMade_52 : decode cX5_isMade 52 = .ok (.ireturn, 1) := by decide +kernel
set_option maxRecDepth 20000 in
theorem ggX5_stands_X5_isWell : GoodIn wsX5_stands wsX5_isWell := goodIn_r _ [6, 1, 7, 8, 9, 10, 5, 11, 12, 13, 14, 15, 16, 17, 18, 19, 20, 21, 22, 23, 24, 25, 26, 27, 28, 29, 30, 31, 32, 33, 34, 35, 36, 37, 38, 39, 40, 41, 42, 43] (by decide +kernel) (by decide +kernel)
set_option maxRecDepth 20000 in
theorem gX5_stands_X5_isWell : GoodIn wsX5_stands (wsV RX5 68 RX5 yX5_isWell wsX5_isWell) := goodIn_app (goodIn_of _ (by decide +kernel)) ggX5_stands_X5_isWell
theorem dX5_stands_0 : decode cX5_stands 0 = .ok (.aload_n 0, 1) := by decide +kernel
theorem dX5_stands_1 : decode cX5_stands 1 = .ok (.getfield 16, 3) := by decide +kernel
theorem dX5_stands_4 : decode cX5_stands 4 = .ok (.iload_n 1, 1) := by decide +kernel
theorem dX5_stands_5 : decode cX5_stands 5 = .ok (.iload_n 2, 1) := by decide +kernel
theorem dX5_stands_6 : decode cX5_stands 6 = .ok (.iastore, 1) := by decide +kernel
theorem dX5_stands_7 : decode cX5_stands 7 = .ok (.aload_n 0, 1) := by decide +kernel
theorem dX5_stands_8 : decode cX5_stands 8 = .ok (.iload_n 1, 1) := by decide +kernel
theorem dX5_stands_9 : decode cX5_stands 9 = .ok (.iconst 0, 1) := by decide +kernel
theorem dX5_stands_10 : decode cX5_stands 10 = .ok (.invokevirtual 68, 3) := by decide +kernel
theorem dX5_stands_13 : decode cX5_stands 13 = .ok (.ifCond .eq 16, 3) := by decide +kernel
theorem dX5_stands_16 : decode cX5_stands 16 = .ok (.aload_n 0, 1) := by decide +kernel
theorem dX5_stands_17 : decode cX5_stands 17 = .ok (.iload_n 1, 1) := by decide +kernel
theorem dX5_stands_18 : decode cX5_stands 18 = .ok (.iconst 1, 1) := by decide +kernel
theorem dX5_stands_19 : decode cX5_stands 19 = .ok (.invokevirtual 68, 3) := by decide +kernel
theorem dX5_stands_22 : decode cX5_stands 22 = .ok (.ifCond .eq 7, 3) := by decide +kernel
theorem dX5_stands_25 : decode cX5_stands 25 = .ok (.iconst 1, 1) := by decide +kernel
theorem dX5_stands_26 : decode cX5_stands 26 = .ok (.goto 4, 3) := by decide +kernel
theorem dX5_stands_29 : decode cX5_stands 29 = .ok (.iconst 0, 1) := by decide +kernel
theorem dX5_stands_30 : decode cX5_stands 30 = .ok (.istore_n 3, 1) := by decide +kernel
theorem dX5_stands_31 : decode cX5_stands 31 = .ok (.aload_n 0, 1) := by decide +kernel
theorem dX5_stands_32 : decode cX5_stands 32 = .ok (.getfield 16, 3) := by decide +kernel
theorem dX5_stands_35 : decode cX5_stands 35 = .ok (.iload_n 1, 1) := by decide +kernel
theorem dX5_stands_36 : decode cX5_stands 36 = .ok (.iconst 0, 1) := by decide +kernel
theorem dX5_stands_37 : decode cX5_stands 37 = .ok (.iastore, 1) := by decide +kernel
theorem dX5_stands_38 : decode cX5_stands 38 = .ok (.iload_n 3, 1) := by decide +kernel
theorem dX5_stands_39 : decode cX5_stands 39 = .ok (.ireturn, 1) := by decide +kernel
set_option maxRecDepth 20000 in
theorem ggX5_canOf_X5_stands : GoodIn wsX5_canOf wsX5_stands := goodIn_r _ [6, 1, 7, 8, 9, 5, 10, 11, 12, 13, 14, 15, 16, 17, 18, 19, 20, 21, 22, 23, 24, 25, 26, 27, 28, 29, 30, 31, 32, 33, 34, 35, 36, 37, 38, 39, 40, 41, 42, 43, 44, 45, 46, 47] (by decide +kernel) (by decide +kernel)
set_option maxRecDepth 20000 in
theorem gX5_canOf_X5_stands : GoodIn wsX5_canOf (wsV RX5 72 RX5 yX5_stands wsX5_stands) := goodIn_app (goodIn_of _ (by decide +kernel)) ggX5_canOf_X5_stands
theorem dX5_canOf_0 : decode cX5_canOf 0 = .ok (.iconst 0, 1) := by decide +kernel
theorem dX5_canOf_1 : decode cX5_canOf 1 = .ok (.istore_n 2, 1) := by decide +kernel
theorem dX5_canOf_2 : decode cX5_canOf 2 = .ok (.aload_n 0, 1) := by decide +kernel
theorem dX5_canOf_3 : decode cX5_canOf 3 = .ok (.getfield 16, 3) := by decide +kernel
theorem dX5_canOf_6 : decode cX5_canOf 6 = .ok (.iload_n 1, 1) := by decide +kernel
theorem dX5_canOf_7 : decode cX5_canOf 7 = .ok (.iaload, 1) := by decide +kernel
theorem dX5_canOf_8 : decode cX5_canOf 8 = .ok (.ifCond .eq 5, 3) := by decide +kernel
theorem dX5_canOf_11 : decode cX5_canOf 11 = .ok (.iconst 0, 1) := by decide +kernel
theorem dX5_canOf_12 : decode cX5_canOf 12 = .ok (.ireturn, 1) := by decide +kernel
theorem dX5_canOf_13 : decode cX5_canOf 13 = .ok (.iconst 1, 1) := by decide +kernel
theorem dX5_canOf_14 : decode cX5_canOf 14 = .ok (.istore_n 3, 1) := by decide +kernel
theorem dX5_canOf_15 : decode cX5_canOf 15 = .ok (.iload_n 3, 1) := by decide +kernel
theorem dX5_canOf_16 : decode cX5_canOf 16 = .ok (.bipush 9, 2) := by decide +kernel
theorem dX5_canOf_18 : decode cX5_canOf 18 = .ok (.if_icmp .gt 24, 3) := by decide +kernel
theorem dX5_canOf_21 : decode cX5_canOf 21 = .ok (.aload_n 0, 1) := by decide +kernel
theorem dX5_canOf_22 : decode cX5_canOf 22 = .ok (.iload_n 1, 1) := by decide +kernel
theorem dX5_canOf_23 : decode cX5_canOf 23 = .ok (.iload_n 3, 1) := by decide +kernel
theorem dX5_canOf_24 : decode cX5_canOf 24 = .ok (.invokevirtual 72, 3) := by decide +kernel
theorem dX5_canOf_27 : decode cX5_canOf 27 = .ok (.ifCond .eq 9, 3) := by decide +kernel
theorem dX5_canOf_30 : decode cX5_canOf 30 = .ok (.iload_n 2, 1) := by decide +kernel
theorem dX5_canOf_31 : decode cX5_canOf 31 = .ok (.iconst 1, 1) := by decide +kernel
theorem dX5_canOf_32 : decode cX5_canOf 32 = .ok (.iload_n 3, 1) := by decide +kernel
theorem dX5_canOf_33 : decode cX5_canOf 33 = .ok (.ishl, 1) := by decide +kernel
theorem dX5_canOf_34 : decode cX5_canOf 34 = .ok (.ior, 1) := by decide +kernel
theorem dX5_canOf_35 : decode cX5_canOf 35 = .ok (.istore_n 2, 1) := by decide +kernel
theorem dX5_canOf_36 : decode cX5_canOf 36 = .ok (.iinc 3 1, 3) := by decide +kernel
theorem dX5_canOf_39 : decode cX5_canOf 39 = .ok (.goto (-24), 3) := by decide +kernel
theorem dX5_canOf_42 : decode cX5_canOf 42 = .ok (.iload_n 2, 1) := by decide +kernel
theorem dX5_canOf_43 : decode cX5_canOf 43 = .ok (.ireturn, 1) := by decide +kernel
set_option maxRecDepth 20000 in
theorem ggX5_isAllWell_X5_isWell : GoodIn wsX5_isAllWell wsX5_isWell := goodIn_r _ [8, 3, 9, 10, 11, 12, 7, 13, 14, 15, 16, 17, 18, 19, 20, 21, 22, 1, 2, 23, 24, 25, 26, 27, 28, 29, 30, 31, 32, 33, 34, 35, 36, 37, 38, 39, 40, 41, 42, 43] (by decide +kernel) (by decide +kernel)
set_option maxRecDepth 20000 in
theorem gX5_isAllWell_X5_isWell : GoodIn wsX5_isAllWell (wsV RX5 68 RX5 yX5_isWell wsX5_isWell) := goodIn_app (goodIn_of _ (by decide +kernel)) ggX5_isAllWell_X5_isWell
theorem dX5_isAllWell_0 : decode cX5_isAllWell 0 = .ok (.iconst 0, 1) := by decide +kernel
theorem dX5_isAllWell_1 : decode cX5_isAllWell 1 = .ok (.istore_n 1, 1) := by decide +kernel
theorem dX5_isAllWell_2 : decode cX5_isAllWell 2 = .ok (.iload_n 1, 1) := by decide +kernel
theorem dX5_isAllWell_3 : decode cX5_isAllWell 3 = .ok (.aload_n 0, 1) := by decide +kernel
theorem dX5_isAllWell_4 : decode cX5_isAllWell 4 = .ok (.getfield 7, 3) := by decide +kernel
theorem dX5_isAllWell_7 : decode cX5_isAllWell 7 = .ok (.aload_n 0, 1) := by decide +kernel
theorem dX5_isAllWell_8 : decode cX5_isAllWell 8 = .ok (.getfield 13, 3) := by decide +kernel
theorem dX5_isAllWell_11 : decode cX5_isAllWell 11 = .ok (.imul, 1) := by decide +kernel
theorem dX5_isAllWell_12 : decode cX5_isAllWell 12 = .ok (.if_icmp .ge 39, 3) := by decide +kernel
theorem dX5_isAllWell_15 : decode cX5_isAllWell 15 = .ok (.aload_n 0, 1) := by decide +kernel
theorem dX5_isAllWell_16 : decode cX5_isAllWell 16 = .ok (.getfield 16, 3) := by decide +kernel
theorem dX5_isAllWell_19 : decode cX5_isAllWell 19 = .ok (.iload_n 1, 1) := by decide +kernel
theorem dX5_isAllWell_20 : decode cX5_isAllWell 20 = .ok (.iaload, 1) := by decide +kernel
theorem dX5_isAllWell_21 : decode cX5_isAllWell 21 = .ok (.iconst (-1), 1) := by decide +kernel
theorem dX5_isAllWell_22 : decode cX5_isAllWell 22 = .ok (.if_icmp .eq 23, 3) := by decide +kernel
theorem dX5_isAllWell_25 : decode cX5_isAllWell 25 = .ok (.aload_n 0, 1) := by decide +kernel
theorem dX5_isAllWell_26 : decode cX5_isAllWell 26 = .ok (.iload_n 1, 1) := by decide +kernel
theorem dX5_isAllWell_27 : decode cX5_isAllWell 27 = .ok (.iconst 0, 1) := by decide +kernel
theorem dX5_isAllWell_28 : decode cX5_isAllWell 28 = .ok (.invokevirtual 68, 3) := by decide +kernel
theorem dX5_isAllWell_31 : decode cX5_isAllWell 31 = .ok (.ifCond .eq 12, 3) := by decide +kernel
theorem dX5_isAllWell_34 : decode cX5_isAllWell 34 = .ok (.aload_n 0, 1) := by decide +kernel
theorem dX5_isAllWell_35 : decode cX5_isAllWell 35 = .ok (.iload_n 1, 1) := by decide +kernel
theorem dX5_isAllWell_36 : decode cX5_isAllWell 36 = .ok (.iconst 1, 1) := by decide +kernel
theorem dX5_isAllWell_37 : decode cX5_isAllWell 37 = .ok (.invokevirtual 68, 3) := by decide +kernel
theorem dX5_isAllWell_40 : decode cX5_isAllWell 40 = .ok (.ifCond .ne 5, 3) := by decide +kernel
theorem dX5_isAllWell_43 : decode cX5_isAllWell 43 = .ok (.iconst 0, 1) := by decide +kernel
theorem dX5_isAllWell_44 : decode cX5_isAllWell 44 = .ok (.ireturn, 1) := by decide +kernel
theorem dX5_isAllWell_45 : decode cX5_isAllWell 45 = .ok (.iinc 1 1, 3) := by decide +kernel
theorem dX5_isAllWell_48 : decode cX5_isAllWell 48 = .ok (.goto (-46), 3) := by decide +kernel
theorem dX5_isAllWell_51 : decode cX5_isAllWell 51 = .ok (.iconst 1, 1) := by decide +kernel
theorem dX5_isAllWell_52 : decode cX5_isAllWell 52 = .ok (.ireturn, 1) := by decide +kernel
theorem dX5_isOver_0 : decode cX5_isOver 0 = .ok (.aload_n 0, 1) := by decide +kernel
theorem dX5_isOver_1 : decode cX5_isOver 1 = .ok (.getfield 75, 3) := by decide +kernel
theorem dX5_isOver_4 : decode cX5_isOver 4 = .ok (.ifCond .ne 12, 3) := by decide +kernel
theorem dX5_isOver_7 : decode cX5_isOver 7 = .ok (.aload_n 0, 1) := by decide +kernel
theorem dX5_isOver_8 : decode cX5_isOver 8 = .ok (.getfield 79, 3) := by decide +kernel
theorem dX5_isOver_11 : decode cX5_isOver 11 = .ok (.bipush 100, 2) := by decide +kernel
theorem dX5_isOver_13 : decode cX5_isOver 13 = .ok (.if_icmp .ne 7, 3) := by decide +kernel
theorem dX5_isOver_16 : decode cX5_isOver 16 = .ok (.iconst 1, 1) := by decide +kernel
theorem dX5_isOver_17 : decode cX5_isOver 17 = .ok (.goto 4, 3) := by decide +kernel
theorem dX5_isOver_20 : decode cX5_isOver 20 = .ok (.iconst 0, 1) := by decide +kernel
theorem dX5_isOver_21 : decode cX5_isOver 21 = .ok (.ireturn, 1) := by decide +kernel
set_option maxRecDepth 20000 in
theorem ggX5_fill_X5_isOver : GoodIn wsX5_fill wsX5_isOver := goodIn_r _ [16, 11, 4, 51, 52, 53, 54, 55, 56, 57, 58, 59, 60, 61, 62] (by decide +kernel) (by decide +kernel)
set_option maxRecDepth 20000 in
theorem gX5_fill_X5_isOver : GoodIn wsX5_fill (wsV RX5 88 RX5 yX5_isOver wsX5_isOver) := goodIn_app (goodIn_of _ (by decide +kernel)) ggX5_fill_X5_isOver
set_option maxRecDepth 20000 in
theorem ggX5_fill_X5_stands : GoodIn wsX5_fill wsX5_stands := goodIn_r _ [20, 3, 21, 22, 23, 15, 24, 25, 26, 27, 28, 29, 30, 31, 32, 33, 34, 35, 36, 37, 38, 1, 2, 39, 40, 41, 42, 43, 44, 45, 46, 47, 51, 52, 53, 54, 55, 56, 57, 58, 59, 60, 61, 62] (by decide +kernel) (by decide +kernel)
set_option maxRecDepth 20000 in
theorem gX5_fill_X5_stands : GoodIn wsX5_fill (wsV RX5 72 RX5 yX5_stands wsX5_stands) := goodIn_app (goodIn_of _ (by decide +kernel)) ggX5_fill_X5_stands
set_option maxRecDepth 20000 in
theorem ggX5_fill_X5_fill : GoodIn wsX5_fill wsX5_fill := goodIn_r _ [0, 1, 2, 3, 4, 5, 6, 7, 8, 9, 10, 11, 12, 13, 14, 15, 16, 17, 18, 19, 20, 21, 22, 23, 24, 25, 26, 27, 28, 29, 30, 31, 32, 33, 34, 35, 36, 37, 38, 39, 40, 41, 42, 43, 44, 45, 46, 47, 48, 49, 50, 51, 52, 53, 54, 55, 56, 57, 58, 59, 60, 61, 62] (by decide +kernel) (by decide +kernel)
set_option maxRecDepth 20000 in
theorem gX5_fill_X5_fill : GoodIn wsX5_fill (wsV RX5 95 RX5 yX5_fill wsX5_fill) := goodIn_app (goodIn_of _ (by decide +kernel)) ggX5_fill_X5_fill
theorem dX5_fill_0 : decode cX5_fill 0 = .ok (.iload_n 1, 1) := by decide +kernel
theorem dX5_fill_1 : decode cX5_fill 1 = .ok (.istore_n 2, 1) := by decide +kernel
theorem dX5_fill_2 : decode cX5_fill 2 = .ok (.iload_n 2, 1) := by decide +kernel
theorem dX5_fill_3 : decode cX5_fill 3 = .ok (.aload_n 0, 1) := by decide +kernel
theorem dX5_fill_4 : decode cX5_fill 4 = .ok (.getfield 7, 3) := by decide +kernel
theorem dX5_fill_7 : decode cX5_fill 7 = .ok (.aload_n 0, 1) := by decide +kernel
theorem dX5_fill_8 : decode cX5_fill 8 = .ok (.getfield 13, 3) := by decide +kernel
theorem dX5_fill_11 : decode cX5_fill 11 = .ok (.imul, 1) := by decide +kernel
theorem dX5_fill_12 : decode cX5_fill 12 = .ok (.if_icmp .ge 18, 3) := by decide +kernel
theorem dX5_fill_15 : decode cX5_fill 15 = .ok (.aload_n 0, 1) := by decide +kernel
theorem dX5_fill_16 : decode cX5_fill 16 = .ok (.getfield 16, 3) := by decide +kernel
theorem dX5_fill_19 : decode cX5_fill 19 = .ok (.iload_n 2, 1) := by decide +kernel
theorem dX5_fill_20 : decode cX5_fill 20 = .ok (.iaload, 1) := by decide +kernel
theorem dX5_fill_21 : decode cX5_fill 21 = .ok (.ifCond .eq 9, 3) := by decide +kernel
theorem dX5_fill_24 : decode cX5_fill 24 = .ok (.iinc 2 1, 3) := by decide +kernel
theorem dX5_fill_27 : decode cX5_fill 27 = .ok (.goto (-25), 3) := by decide +kernel
theorem dX5_fill_30 : decode cX5_fill 30 = .ok (.iload_n 2, 1) := by decide +kernel
theorem dX5_fill_31 : decode cX5_fill 31 = .ok (.aload_n 0, 1) := by decide +kernel
theorem dX5_fill_32 : decode cX5_fill 32 = .ok (.getfield 7, 3) := by decide +kernel
theorem dX5_fill_35 : decode cX5_fill 35 = .ok (.aload_n 0, 1) := by decide +kernel
theorem dX5_fill_36 : decode cX5_fill 36 = .ok (.getfield 13, 3) := by decide +kernel
theorem dX5_fill_39 : decode cX5_fill 39 = .ok (.imul, 1) := by decide +kernel
theorem dX5_fill_40 : decode cX5_fill 40 = .ok (.if_icmp .ne 36, 3) := by decide +kernel
theorem dX5_fill_43 : decode cX5_fill 43 = .ok (.aload_n 0, 1) := by decide +kernel
theorem dX5_fill_44 : decode cX5_fill 44 = .ok (.getfield 79, 3) := by decide +kernel
theorem dX5_fill_47 : decode cX5_fill 47 = .ok (.ifCond .ne 18, 3) := by decide +kernel
theorem dX5_fill_50 : decode cX5_fill 50 = .ok (.aload_n 0, 1) := by decide +kernel
theorem dX5_fill_51 : decode cX5_fill 51 = .ok (.getfield 16, 3) := by decide +kernel
theorem dX5_fill_54 : decode cX5_fill 54 = .ok (.iconst 0, 1) := by decide +kernel
theorem dX5_fill_55 : decode cX5_fill 55 = .ok (.aload_n 0, 1) := by decide +kernel
theorem dX5_fill_56 : decode cX5_fill 56 = .ok (.getfield 32, 3) := by decide +kernel
theorem dX5_fill_59 : decode cX5_fill 59 = .ok (.iconst 0, 1) := by decide +kernel
theorem dX5_fill_60 : decode cX5_fill 60 = .ok (.bipush 36, 2) := by decide +kernel
theorem dX5_fill_62 : decode cX5_fill 62 = .ok (.invokestatic 82, 3) := by decide +kernel
theorem dX5_fill_65 : decode cX5_fill 65 = .ok (.aload_n 0, 1) := by decide +kernel
theorem dX5_fill_66 : decode cX5_fill 66 = .ok (.dup, 1) := by decide +kernel
theorem dX5_fill_67 : decode cX5_fill 67 = .ok (.getfield 79, 3) := by decide +kernel
theorem dX5_fill_70 : decode cX5_fill 70 = .ok (.iconst 1, 1) := by decide +kernel
theorem dX5_fill_71 : decode cX5_fill 71 = .ok (.iadd, 1) := by decide +kernel
theorem dX5_fill_72 : decode cX5_fill 72 = .ok (.putfield 79, 3) := by decide +kernel
theorem dX5_fill_75 : decode cX5_fill 75 = .ok (.return_, 1) := by decide +kernel
theorem dX5_fill_76 : decode cX5_fill 76 = .ok (.iconst 1, 1) := by decide +kernel
theorem dX5_fill_77 : decode cX5_fill 77 = .ok (.istore_n 3, 1) := by decide +kernel
theorem dX5_fill_78 : decode cX5_fill 78 = .ok (.iload_n 3, 1) := by decide +kernel
theorem dX5_fill_79 : decode cX5_fill 79 = .ok (.bipush 9, 2) := by decide +kernel
theorem dX5_fill_81 : decode cX5_fill 81 = .ok (.if_icmp .gt 85, 3) := by decide +kernel
theorem dX5_fill_84 : decode cX5_fill 84 = .ok (.aload_n 0, 1) := by decide +kernel
theorem dX5_fill_85 : decode cX5_fill 85 = .ok (.invokevirtual 88, 3) := by decide +kernel
theorem dX5_fill_88 : decode cX5_fill 88 = .ok (.ifCond .ne 78, 3) := by decide +kernel
theorem dX5_fill_91 : decode cX5_fill 91 = .ok (.aload_n 0, 1) := by decide +kernel
theorem dX5_fill_92 : decode cX5_fill 92 = .ok (.dup, 1) := by decide +kernel
theorem dX5_fill_93 : decode cX5_fill 93 = .ok (.getfield 92, 3) := by decide +kernel
theorem dX5_fill_96 : decode cX5_fill 96 = .ok (.iconst 1, 1) := by decide +kernel
theorem dX5_fill_97 : decode cX5_fill 97 = .ok (.iadd, 1) := by decide +kernel
theorem dX5_fill_98 : decode cX5_fill 98 = .ok (.putfield 92, 3) := by decide +kernel
theorem dX5_fill_101 : decode cX5_fill 101 = .ok (.aload_n 0, 1) := by decide +kernel
theorem dX5_fill_102 : decode cX5_fill 102 = .ok (.aload_n 0, 1) := by decide +kernel
theorem dX5_fill_103 : decode cX5_fill 103 = .ok (.getfield 92, 3) := by decide +kernel
theorem dX5_fill_106 : decode cX5_fill 106 = .ok (.sipush 4000, 3) := by decide +kernel
theorem dX5_fill_109 : decode cX5_fill 109 = .ok (.if_icmp .le 7, 3) := by decide +kernel
theorem dX5_fill_112 : decode cX5_fill 112 = .ok (.iconst 1, 1) := by decide +kernel
theorem dX5_fill_113 : decode cX5_fill 113 = .ok (.goto 4, 3) := by decide +kernel
theorem dX5_fill_116 : decode cX5_fill 116 = .ok (.iconst 0, 1) := by decide +kernel
theorem dX5_fill_117 : decode cX5_fill 117 = .ok (.putfield 75, 3) := by decide +kernel
theorem dX5_fill_120 : decode cX5_fill 120 = .ok (.aload_n 0, 1) := by decide +kernel
theorem dX5_fill_121 : decode cX5_fill 121 = .ok (.getfield 75, 3) := by decide +kernel
theorem dX5_fill_124 : decode cX5_fill 124 = .ok (.ifCond .ne 36, 3) := by decide +kernel
theorem dX5_fill_127 : decode cX5_fill 127 = .ok (.aload_n 0, 1) := by decide +kernel
theorem dX5_fill_128 : decode cX5_fill 128 = .ok (.iload_n 2, 1) := by decide +kernel
theorem dX5_fill_129 : decode cX5_fill 129 = .ok (.iload_n 3, 1) := by decide +kernel
theorem dX5_fill_130 : decode cX5_fill 130 = .ok (.invokevirtual 72, 3) := by decide +kernel
theorem dX5_fill_133 : decode cX5_fill 133 = .ok (.ifCond .ne 6, 3) := by decide +kernel
theorem dX5_fill_136 : decode cX5_fill 136 = .ok (.goto 24, 3) := by decide +kernel
theorem dX5_fill_139 : decode cX5_fill 139 = .ok (.aload_n 0, 1) := by decide +kernel
theorem dX5_fill_140 : decode cX5_fill 140 = .ok (.getfield 16, 3) := by decide +kernel
theorem dX5_fill_143 : decode cX5_fill 143 = .ok (.iload_n 2, 1) := by decide +kernel
theorem dX5_fill_144 : decode cX5_fill 144 = .ok (.iload_n 3, 1) := by decide +kernel
theorem dX5_fill_145 : decode cX5_fill 145 = .ok (.iastore, 1) := by decide +kernel
theorem dX5_fill_146 : decode cX5_fill 146 = .ok (.aload_n 0, 1) := by decide +kernel
theorem dX5_fill_147 : decode cX5_fill 147 = .ok (.iload_n 2, 1) := by decide +kernel
theorem dX5_fill_148 : decode cX5_fill 148 = .ok (.iconst 1, 1) := by decide +kernel
theorem dX5_fill_149 : decode cX5_fill 149 = .ok (.iadd, 1) := by decide +kernel
theorem dX5_fill_150 : decode cX5_fill 150 = .ok (.invokevirtual 95, 3) := by decide +kernel
theorem dX5_fill_153 : decode cX5_fill 153 = .ok (.aload_n 0, 1) := by decide +kernel
theorem dX5_fill_154 : decode cX5_fill 154 = .ok (.getfield 16, 3) := by decide +kernel
theorem dX5_fill_157 : decode cX5_fill 157 = .ok (.iload_n 2, 1) := by decide +kernel
theorem dX5_fill_158 : decode cX5_fill 158 = .ok (.iconst 0, 1) := by decide +kernel
theorem dX5_fill_159 : decode cX5_fill 159 = .ok (.iastore, 1) := by decide +kernel
theorem dX5_fill_160 : decode cX5_fill 160 = .ok (.iinc 3 1, 3) := by decide +kernel
theorem dX5_fill_163 : decode cX5_fill 163 = .ok (.goto (-85), 3) := by decide +kernel
theorem dX5_fill_166 : decode cX5_fill 166 = .ok (.return_, 1) := by decide +kernel
set_option maxRecDepth 20000 in
theorem ggX5_look_X5_isAllWell : GoodIn wsX5_look wsX5_isAllWell := goodIn_r _ [9, 10, 11, 12, 13, 14, 15, 8, 16, 17, 18, 19, 20, 21, 22, 23, 24, 25, 26, 27, 28, 29, 30, 31, 32, 33, 34, 35, 36, 37, 38, 39, 56, 57, 58, 59, 60, 61, 62, 63, 64, 65, 66, 67] (by decide +kernel) (by decide +kernel)
set_option maxRecDepth 20000 in
theorem gX5_look_X5_isAllWell : GoodIn wsX5_look (wsV RX5 99 RX5 yX5_isAllWell wsX5_isAllWell) := goodIn_app (goodIn_of _ (by decide +kernel)) ggX5_look_X5_isAllWell
set_option maxRecDepth 20000 in
theorem ggX5_look_X5_fill : GoodIn wsX5_look wsX5_fill := goodIn_r _ [43, 10, 11, 12, 2, 4, 44, 45, 46, 47, 1, 3, 48, 49, 50, 8, 51, 52, 53, 54, 55, 13, 14, 15, 16, 17, 18, 19, 20, 21, 22, 23, 24, 25, 26, 27, 28, 29, 30, 31, 32, 33, 34, 35, 36, 37, 38, 39, 40, 41, 42, 56, 57, 58, 59, 60, 61, 62, 63, 64, 65, 66, 67] (by decide +kernel) (by decide +kernel)
set_option maxRecDepth 20000 in
theorem gX5_look_X5_fill : GoodIn wsX5_look (wsV RX5 95 RX5 yX5_fill wsX5_fill) := goodIn_app (goodIn_of _ (by decide +kernel)) ggX5_look_X5_fill
theorem dX5_look_0 : decode cX5_look 0 = .ok (.aload_n 0, 1) := by decide +kernel
theorem dX5_look_1 : decode cX5_look 1 = .ok (.iconst 0, 1) := by decide +kernel
theorem dX5_look_2 : decode cX5_look 2 = .ok (.putfield 92, 3) := by decide +kernel
theorem dX5_look_5 : decode cX5_look 5 = .ok (.aload_n 0, 1) := by decide +kernel
theorem dX5_look_6 : decode cX5_look 6 = .ok (.iconst 0, 1) := by decide +kernel
theorem dX5_look_7 : decode cX5_look 7 = .ok (.putfield 79, 3) := by decide +kernel
theorem dX5_look_10 : decode cX5_look 10 = .ok (.aload_n 0, 1) := by decide +kernel
theorem dX5_look_11 : decode cX5_look 11 = .ok (.iconst 0, 1) := by decide +kernel
theorem dX5_look_12 : decode cX5_look 12 = .ok (.putfield 75, 3) := by decide +kernel
theorem dX5_look_15 : decode cX5_look 15 = .ok (.iconst 0, 1) := by decide +kernel
theorem dX5_look_16 : decode cX5_look 16 = .ok (.istore_n 1, 1) := by decide +kernel
theorem dX5_look_17 : decode cX5_look 17 = .ok (.iload_n 1, 1) := by decide +kernel
theorem dX5_look_18 : decode cX5_look 18 = .ok (.bipush 36, 2) := by decide +kernel
theorem dX5_look_20 : decode cX5_look 20 = .ok (.if_icmp .ge 16, 3) := by decide +kernel
theorem dX5_look_23 : decode cX5_look 23 = .ok (.aload_n 0, 1) := by decide +kernel
theorem dX5_look_24 : decode cX5_look 24 = .ok (.getfield 32, 3) := by decide +kernel
theorem dX5_look_27 : decode cX5_look 27 = .ok (.iload_n 1, 1) := by decide +kernel
theorem dX5_look_28 : decode cX5_look 28 = .ok (.iconst 0, 1) := by decide +kernel
theorem dX5_look_29 : decode cX5_look 29 = .ok (.iastore, 1) := by decide +kernel
theorem dX5_look_30 : decode cX5_look 30 = .ok (.iinc 1 1, 3) := by decide +kernel
theorem dX5_look_33 : decode cX5_look 33 = .ok (.goto (-16), 3) := by decide +kernel
theorem dX5_look_36 : decode cX5_look 36 = .ok (.aload_n 0, 1) := by decide +kernel
theorem dX5_look_37 : decode cX5_look 37 = .ok (.invokevirtual 99, 3) := by decide +kernel
theorem dX5_look_40 : decode cX5_look 40 = .ok (.ifCond .eq 8, 3) := by decide +kernel
theorem dX5_look_43 : decode cX5_look 43 = .ok (.aload_n 0, 1) := by decide +kernel
theorem dX5_look_44 : decode cX5_look 44 = .ok (.iconst 0, 1) := by decide +kernel
theorem dX5_look_45 : decode cX5_look 45 = .ok (.invokevirtual 95, 3) := by decide +kernel
theorem dX5_look_48 : decode cX5_look 48 = .ok (.return_, 1) := by decide +kernel
theorem dX5_told_0 : decode cX5_told 0 = .ok (.aload_n 0, 1) := by decide +kernel
theorem dX5_told_1 : decode cX5_told 1 = .ok (.getfield 75, 3) := by decide +kernel
theorem dX5_told_4 : decode cX5_told 4 = .ok (.ifCond .eq 7, 3) := by decide +kernel
theorem dX5_told_7 : decode cX5_told 7 = .ok (.iconst (-1), 1) := by decide +kernel
theorem dX5_told_8 : decode cX5_told 8 = .ok (.goto 7, 3) := by decide +kernel
theorem dX5_told_11 : decode cX5_told 11 = .ok (.aload_n 0, 1) := by decide +kernel
theorem dX5_told_12 : decode cX5_told 12 = .ok (.getfield 79, 3) := by decide +kernel
theorem dX5_told_15 : decode cX5_told 15 = .ok (.ireturn, 1) := by decide +kernel
set_option maxRecDepth 20000 in
theorem ggX5_setFloor_X5_isIn : GoodIn wsX5_setFloor wsX5_isIn := goodIn_r _ [9] (by decide +kernel) (by decide +kernel)
set_option maxRecDepth 20000 in
theorem gX5_setFloor_X5_isIn : GoodIn wsX5_setFloor (va_wsS RX5 50 yX5_isIn wsX5_isIn) := goodIn_app (goodIn_of _ (by decide +kernel)) ggX5_setFloor_X5_isIn
set_option maxRecDepth 20000 in
theorem ggX5_setFloor_X5_no : GoodIn wsX5_setFloor wsX5_no := goodIn_r _ [13, 1, 19, 20, 21, 22, 23, 24, 25, 26, 27, 28, 29, 30] (by decide +kernel) (by decide +kernel)
set_option maxRecDepth 20000 in
theorem gX5_setFloor_X5_no : GoodIn wsX5_setFloor (wsV RX5 102 RX5 yX5_no wsX5_no) := goodIn_app (goodIn_of _ (by decide +kernel)) ggX5_setFloor_X5_no
set_option maxRecDepth 20000 in
theorem ggX5_setFloor_X5_link : GoodIn wsX5_setFloor wsX5_link := goodIn_r _ [17, 2, 3, 18, 4, 19, 20, 21, 22, 23, 24, 25, 26, 27, 28, 29, 30] (by decide +kernel) (by decide +kernel)
set_option maxRecDepth 20000 in
theorem gX5_setFloor_X5_link : GoodIn wsX5_setFloor (wsV RX5 44 RX5 yX5_link wsX5_link) := goodIn_app (goodIn_of _ (by decide +kernel)) ggX5_setFloor_X5_link
theorem dX5_setFloor_0 : decode cX5_setFloor 0 = .ok (.aload_n 0, 1) := by decide +kernel
theorem dX5_setFloor_1 : decode cX5_setFloor 1 = .ok (.iconst 0, 1) := by decide +kernel
theorem dX5_setFloor_2 : decode cX5_setFloor 2 = .ok (.putfield 47, 3) := by decide +kernel
theorem dX5_setFloor_5 : decode cX5_setFloor 5 = .ok (.iload_n 1, 1) := by decide +kernel
theorem dX5_setFloor_6 : decode cX5_setFloor 6 = .ok (.iconst 2, 1) := by decide +kernel
theorem dX5_setFloor_7 : decode cX5_setFloor 7 = .ok (.bipush 6, 2) := by decide +kernel
theorem dX5_setFloor_9 : decode cX5_setFloor 9 = .ok (.invokestatic 50, 3) := by decide +kernel
theorem dX5_setFloor_12 : decode cX5_setFloor 12 = .ok (.ifCond .eq 13, 3) := by decide +kernel
theorem dX5_setFloor_15 : decode cX5_setFloor 15 = .ok (.iload_n 2, 1) := by decide +kernel
theorem dX5_setFloor_16 : decode cX5_setFloor 16 = .ok (.iconst 2, 1) := by decide +kernel
theorem dX5_setFloor_17 : decode cX5_setFloor 17 = .ok (.bipush 6, 2) := by decide +kernel
theorem dX5_setFloor_19 : decode cX5_setFloor 19 = .ok (.invokestatic 50, 3) := by decide +kernel
theorem dX5_setFloor_22 : decode cX5_setFloor 22 = .ok (.ifCond .ne 9, 3) := by decide +kernel
theorem dX5_setFloor_25 : decode cX5_setFloor 25 = .ok (.aload_n 0, 1) := by decide +kernel
theorem dX5_setFloor_26 : decode cX5_setFloor 26 = .ok (.iconst 1, 1) := by decide +kernel
theorem dX5_setFloor_27 : decode cX5_setFloor 27 = .ok (.invokevirtual 102, 3) := by decide +kernel
theorem dX5_setFloor_30 : decode cX5_setFloor 30 = .ok (.ireturn, 1) := by decide +kernel
theorem dX5_setFloor_31 : decode cX5_setFloor 31 = .ok (.aload_n 0, 1) := by decide +kernel
theorem dX5_setFloor_32 : decode cX5_setFloor 32 = .ok (.iload_n 1, 1) := by decide +kernel
theorem dX5_setFloor_33 : decode cX5_setFloor 33 = .ok (.putfield 7, 3) := by decide +kernel
theorem dX5_setFloor_36 : decode cX5_setFloor 36 = .ok (.aload_n 0, 1) := by decide +kernel
theorem dX5_setFloor_37 : decode cX5_setFloor 37 = .ok (.iload_n 2, 1) := by decide +kernel
theorem dX5_setFloor_38 : decode cX5_setFloor 38 = .ok (.putfield 13, 3) := by decide +kernel
theorem dX5_setFloor_41 : decode cX5_setFloor 41 = .ok (.iconst 0, 1) := by decide +kernel
theorem dX5_setFloor_42 : decode cX5_setFloor 42 = .ok (.istore_n 3, 1) := by decide +kernel
theorem dX5_setFloor_43 : decode cX5_setFloor 43 = .ok (.iload_n 3, 1) := by decide +kernel
theorem dX5_setFloor_44 : decode cX5_setFloor 44 = .ok (.bipush 36, 2) := by decide +kernel
theorem dX5_setFloor_46 : decode cX5_setFloor 46 = .ok (.if_icmp .ge 16, 3) := by decide +kernel
theorem dX5_setFloor_49 : decode cX5_setFloor 49 = .ok (.aload_n 0, 1) := by decide +kernel
theorem dX5_setFloor_50 : decode cX5_setFloor 50 = .ok (.getfield 16, 3) := by decide +kernel
theorem dX5_setFloor_53 : decode cX5_setFloor 53 = .ok (.iload_n 3, 1) := by decide +kernel
theorem dX5_setFloor_54 : decode cX5_setFloor 54 = .ok (.iconst 0, 1) := by decide +kernel
theorem dX5_setFloor_55 : decode cX5_setFloor 55 = .ok (.iastore, 1) := by decide +kernel
theorem dX5_setFloor_56 : decode cX5_setFloor 56 = .ok (.iinc 3 1, 3) := by decide +kernel
theorem dX5_setFloor_59 : decode cX5_setFloor 59 = .ok (.goto (-16), 3) := by decide +kernel
theorem dX5_setFloor_62 : decode cX5_setFloor 62 = .ok (.iconst 0, 1) := by decide +kernel
theorem dX5_setFloor_63 : decode cX5_setFloor 63 = .ok (.istore_n 3, 1) := by decide +kernel
theorem dX5_setFloor_64 : decode cX5_setFloor 64 = .ok (.iload_n 3, 1) := by decide +kernel
theorem dX5_setFloor_65 : decode cX5_setFloor 65 = .ok (.bipush 72, 2) := by decide +kernel
theorem dX5_setFloor_67 : decode cX5_setFloor 67 = .ok (.if_icmp .ge 16, 3) := by decide +kernel
theorem dX5_setFloor_70 : decode cX5_setFloor 70 = .ok (.aload_n 0, 1) := by decide +kernel
theorem dX5_setFloor_71 : decode cX5_setFloor 71 = .ok (.getfield 20, 3) := by decide +kernel
theorem dX5_setFloor_74 : decode cX5_setFloor 74 = .ok (.iload_n 3, 1) := by decide +kernel
theorem dX5_setFloor_75 : decode cX5_setFloor 75 = .ok (.iconst 0, 1) := by decide +kernel
theorem dX5_setFloor_76 : decode cX5_setFloor 76 = .ok (.iastore, 1) := by decide +kernel
theorem dX5_setFloor_77 : decode cX5_setFloor 77 = .ok (.iinc 3 1, 3) := by decide +kernel
theorem dX5_setFloor_80 : decode cX5_setFloor 80 = .ok (.goto (-16), 3) := by decide +kernel
theorem dX5_setFloor_83 : decode cX5_setFloor 83 = .ok (.aload_n 0, 1) := by decide +kernel
theorem dX5_setFloor_84 : decode cX5_setFloor 84 = .ok (.invokevirtual 44, 3) := by decide +kernel
theorem dX5_setFloor_87 : decode cX5_setFloor 87 = .ok (.aload_n 0, 1) := by decide +kernel
theorem dX5_setFloor_88 : decode cX5_setFloor 88 = .ok (.getfield 7, 3) := by decide +kernel
theorem dX5_setFloor_91 : decode cX5_setFloor 91 = .ok (.aload_n 0, 1) := by decide +kernel
theorem dX5_setFloor_92 : decode cX5_setFloor 92 = .ok (.getfield 13, 3) := by decide +kernel
theorem dX5_setFloor_95 : decode cX5_setFloor 95 = .ok (.imul, 1) := by decide +kernel
theorem dX5_setFloor_96 : decode cX5_setFloor 96 = .ok (.ireturn, 1) := by decide +kernel
set_option maxRecDepth 20000 in
theorem ggX5_pillar_X5_isCell : GoodIn wsX5_pillar wsX5_isCell := goodIn_r _ [7, 8, 9, 10, 11, 6, 12, 18, 19, 20, 21, 22, 23, 24, 25, 26, 27, 28, 29] (by decide +kernel) (by decide +kernel)
set_option maxRecDepth 20000 in
theorem gX5_pillar_X5_isCell : GoodIn wsX5_pillar (wsV RX5 105 RX5 yX5_isCell wsX5_isCell) := goodIn_app (goodIn_of _ (by decide +kernel)) ggX5_pillar_X5_isCell
set_option maxRecDepth 20000 in
theorem ggX5_pillar_X5_link : GoodIn wsX5_pillar wsX5_link := goodIn_r _ [16, 8, 9, 17, 2, 18, 19, 20, 21, 22, 23, 24, 25, 26, 27, 28, 29] (by decide +kernel) (by decide +kernel)
set_option maxRecDepth 20000 in
theorem gX5_pillar_X5_link : GoodIn wsX5_pillar (wsV RX5 44 RX5 yX5_link wsX5_link) := goodIn_app (goodIn_of _ (by decide +kernel)) ggX5_pillar_X5_link
theorem dX5_pillar_0 : decode cX5_pillar 0 = .ok (.aload_n 0, 1) := by decide +kernel
theorem dX5_pillar_1 : decode cX5_pillar 1 = .ok (.aload_n 0, 1) := by decide +kernel
theorem dX5_pillar_2 : decode cX5_pillar 2 = .ok (.iload_n 1, 1) := by decide +kernel
theorem dX5_pillar_3 : decode cX5_pillar 3 = .ok (.invokevirtual 105, 3) := by decide +kernel
theorem dX5_pillar_6 : decode cX5_pillar 6 = .ok (.ifCond .eq 7, 3) := by decide +kernel
theorem dX5_pillar_9 : decode cX5_pillar 9 = .ok (.iconst 0, 1) := by decide +kernel
theorem dX5_pillar_10 : decode cX5_pillar 10 = .ok (.goto 4, 3) := by decide +kernel
theorem dX5_pillar_13 : decode cX5_pillar 13 = .ok (.iconst 1, 1) := by decide +kernel
theorem dX5_pillar_14 : decode cX5_pillar 14 = .ok (.putfield 47, 3) := by decide +kernel
theorem dX5_pillar_17 : decode cX5_pillar 17 = .ok (.aload_n 0, 1) := by decide +kernel
theorem dX5_pillar_18 : decode cX5_pillar 18 = .ok (.getfield 47, 3) := by decide +kernel
theorem dX5_pillar_21 : decode cX5_pillar 21 = .ok (.ifCond .eq 5, 3) := by decide +kernel
theorem dX5_pillar_24 : decode cX5_pillar 24 = .ok (.iconst 0, 1) := by decide +kernel
theorem dX5_pillar_25 : decode cX5_pillar 25 = .ok (.ireturn, 1) := by decide +kernel
theorem dX5_pillar_26 : decode cX5_pillar 26 = .ok (.aload_n 0, 1) := by decide +kernel
theorem dX5_pillar_27 : decode cX5_pillar 27 = .ok (.getfield 16, 3) := by decide +kernel
theorem dX5_pillar_30 : decode cX5_pillar 30 = .ok (.iload_n 1, 1) := by decide +kernel
theorem dX5_pillar_31 : decode cX5_pillar 31 = .ok (.aload_n 0, 1) := by decide +kernel
theorem dX5_pillar_32 : decode cX5_pillar 32 = .ok (.getfield 16, 3) := by decide +kernel
theorem dX5_pillar_35 : decode cX5_pillar 35 = .ok (.iload_n 1, 1) := by decide +kernel
theorem dX5_pillar_36 : decode cX5_pillar 36 = .ok (.iaload, 1) := by decide +kernel
theorem dX5_pillar_37 : decode cX5_pillar 37 = .ok (.iconst (-1), 1) := by decide +kernel
theorem dX5_pillar_38 : decode cX5_pillar 38 = .ok (.if_icmp .ne 7, 3) := by decide +kernel
theorem dX5_pillar_41 : decode cX5_pillar 41 = .ok (.iconst 0, 1) := by decide +kernel
theorem dX5_pillar_42 : decode cX5_pillar 42 = .ok (.goto 4, 3) := by decide +kernel
theorem dX5_pillar_45 : decode cX5_pillar 45 = .ok (.iconst (-1), 1) := by decide +kernel
theorem dX5_pillar_46 : decode cX5_pillar 46 = .ok (.iastore, 1) := by decide +kernel
theorem dX5_pillar_47 : decode cX5_pillar 47 = .ok (.aload_n 0, 1) := by decide +kernel
theorem dX5_pillar_48 : decode cX5_pillar 48 = .ok (.invokevirtual 44, 3) := by decide +kernel
theorem dX5_pillar_51 : decode cX5_pillar 51 = .ok (.aload_n 0, 1) := by decide +kernel
theorem dX5_pillar_52 : decode cX5_pillar 52 = .ok (.getfield 16, 3) := by decide +kernel
theorem dX5_pillar_55 : decode cX5_pillar 55 = .ok (.iload_n 1, 1) := by decide +kernel
theorem dX5_pillar_56 : decode cX5_pillar 56 = .ok (.iaload, 1) := by decide +kernel
theorem dX5_pillar_57 : decode cX5_pillar 57 = .ok (.iconst (-1), 1) := by decide +kernel
theorem dX5_pillar_58 : decode cX5_pillar 58 = .ok (.if_icmp .ne 7, 3) := by decide +kernel
theorem dX5_pillar_61 : decode cX5_pillar 61 = .ok (.iconst 1, 1) := by decide +kernel
theorem dX5_pillar_62 : decode cX5_pillar 62 = .ok (.goto 4, 3) := by decide +kernel
theorem dX5_pillar_65 : decode cX5_pillar 65 = .ok (.iconst 0, 1) := by decide +kernel
theorem dX5_pillar_66 : decode cX5_pillar 66 = .ok (.ireturn, 1) := by decide +kernel
set_option maxRecDepth 20000 in
theorem ggX5_setSum_X5_isCell : GoodIn wsX5_setSum wsX5_isCell := goodIn_r _ [7, 8, 9, 10, 11, 6, 12, 17, 18, 19, 20, 21, 22, 23, 24, 25, 26, 27, 28] (by decide +kernel) (by decide +kernel)
set_option maxRecDepth 20000 in
theorem gX5_setSum_X5_isCell : GoodIn wsX5_setSum (wsV RX5 105 RX5 yX5_isCell wsX5_isCell) := goodIn_app (goodIn_of _ (by decide +kernel)) ggX5_setSum_X5_isCell
set_option maxRecDepth 20000 in
theorem ggX5_setSum_X5_no : GoodIn wsX5_setSum wsX5_no := goodIn_r _ [16, 1, 17, 18, 19, 20, 21, 22, 23, 24, 25, 26, 27, 28] (by decide +kernel) (by decide +kernel)
set_option maxRecDepth 20000 in
theorem gX5_setSum_X5_no : GoodIn wsX5_setSum (wsV RX5 102 RX5 yX5_no wsX5_no) := goodIn_app (goodIn_of _ (by decide +kernel)) ggX5_setSum_X5_no
set_option maxRecDepth 20000 in
theorem ggX5_setSum_X5_isIn : GoodIn wsX5_setSum wsX5_isIn := goodIn_r _ [12] (by decide +kernel) (by decide +kernel)
set_option maxRecDepth 20000 in
theorem gX5_setSum_X5_isIn : GoodIn wsX5_setSum (va_wsS RX5 50 yX5_isIn wsX5_isIn) := goodIn_app (goodIn_of _ (by decide +kernel)) ggX5_setSum_X5_isIn
theorem dX5_setSum_0 : decode cX5_setSum 0 = .ok (.aload_n 0, 1) := by decide +kernel
theorem dX5_setSum_1 : decode cX5_setSum 1 = .ok (.iconst 0, 1) := by decide +kernel
theorem dX5_setSum_2 : decode cX5_setSum 2 = .ok (.putfield 47, 3) := by decide +kernel
theorem dX5_setSum_5 : decode cX5_setSum 5 = .ok (.aload_n 0, 1) := by decide +kernel
theorem dX5_setSum_6 : decode cX5_setSum 6 = .ok (.iload_n 1, 1) := by decide +kernel
theorem dX5_setSum_7 : decode cX5_setSum 7 = .ok (.invokevirtual 105, 3) := by decide +kernel
theorem dX5_setSum_10 : decode cX5_setSum 10 = .ok (.ifCond .ne 9, 3) := by decide +kernel
theorem dX5_setSum_13 : decode cX5_setSum 13 = .ok (.aload_n 0, 1) := by decide +kernel
theorem dX5_setSum_14 : decode cX5_setSum 14 = .ok (.iconst 1, 1) := by decide +kernel
theorem dX5_setSum_15 : decode cX5_setSum 15 = .ok (.invokevirtual 102, 3) := by decide +kernel
theorem dX5_setSum_18 : decode cX5_setSum 18 = .ok (.ireturn, 1) := by decide +kernel
theorem dX5_setSum_19 : decode cX5_setSum 19 = .ok (.iload_n 3, 1) := by decide +kernel
theorem dX5_setSum_20 : decode cX5_setSum 20 = .ok (.iconst 0, 1) := by decide +kernel
theorem dX5_setSum_21 : decode cX5_setSum 21 = .ok (.bipush 45, 2) := by decide +kernel
theorem dX5_setSum_23 : decode cX5_setSum 23 = .ok (.invokestatic 50, 3) := by decide +kernel
theorem dX5_setSum_26 : decode cX5_setSum 26 = .ok (.ifCond .ne 9, 3) := by decide +kernel
theorem dX5_setSum_29 : decode cX5_setSum 29 = .ok (.aload_n 0, 1) := by decide +kernel
theorem dX5_setSum_30 : decode cX5_setSum 30 = .ok (.iconst 2, 1) := by decide +kernel
theorem dX5_setSum_31 : decode cX5_setSum 31 = .ok (.invokevirtual 102, 3) := by decide +kernel
theorem dX5_setSum_34 : decode cX5_setSum 34 = .ok (.ireturn, 1) := by decide +kernel
theorem dX5_setSum_35 : decode cX5_setSum 35 = .ok (.bipush 36, 2) := by decide +kernel
theorem dX5_setSum_37 : decode cX5_setSum 37 = .ok (.iload_n 2, 1) := by decide +kernel
theorem dX5_setSum_38 : decode cX5_setSum 38 = .ok (.ifCond .eq 7, 3) := by decide +kernel
theorem dX5_setSum_41 : decode cX5_setSum 41 = .ok (.iconst 1, 1) := by decide +kernel
theorem dX5_setSum_42 : decode cX5_setSum 42 = .ok (.goto 4, 3) := by decide +kernel
theorem dX5_setSum_45 : decode cX5_setSum 45 = .ok (.iconst 0, 1) := by decide +kernel
theorem dX5_setSum_46 : decode cX5_setSum 46 = .ok (.imul, 1) := by decide +kernel
theorem dX5_setSum_47 : decode cX5_setSum 47 = .ok (.iload_n 1, 1) := by decide +kernel
theorem dX5_setSum_48 : decode cX5_setSum 48 = .ok (.iadd, 1) := by decide +kernel
theorem dX5_setSum_49 : decode cX5_setSum 49 = .ok (.istore 4, 2) := by decide +kernel
theorem dX5_setSum_51 : decode cX5_setSum 51 = .ok (.aload_n 0, 1) := by decide +kernel
theorem dX5_setSum_52 : decode cX5_setSum 52 = .ok (.getfield 20, 3) := by decide +kernel
theorem dX5_setSum_55 : decode cX5_setSum 55 = .ok (.iload 4, 2) := by decide +kernel
theorem dX5_setSum_57 : decode cX5_setSum 57 = .ok (.iaload, 1) := by decide +kernel
theorem dX5_setSum_58 : decode cX5_setSum 58 = .ok (.istore 5, 2) := by decide +kernel
theorem dX5_setSum_60 : decode cX5_setSum 60 = .ok (.aload_n 0, 1) := by decide +kernel
theorem dX5_setSum_61 : decode cX5_setSum 61 = .ok (.getfield 20, 3) := by decide +kernel
theorem dX5_setSum_64 : decode cX5_setSum 64 = .ok (.iload 4, 2) := by decide +kernel
theorem dX5_setSum_66 : decode cX5_setSum 66 = .ok (.iload_n 3, 1) := by decide +kernel
theorem dX5_setSum_67 : decode cX5_setSum 67 = .ok (.iastore, 1) := by decide +kernel
theorem dX5_setSum_68 : decode cX5_setSum 68 = .ok (.iload 5, 2) := by decide +kernel
theorem dX5_setSum_70 : decode cX5_setSum 70 = .ok (.ireturn, 1) := by decide +kernel
set_option maxRecDepth 20000 in
theorem ggX5_put_X5_isCell : GoodIn wsX5_put wsX5_isCell := goodIn_r _ [7, 8, 9, 10, 11, 6, 12, 17, 18, 19, 20, 21, 22, 23, 24, 25, 26, 27, 28] (by decide +kernel) (by decide +kernel)
set_option maxRecDepth 20000 in
theorem gX5_put_X5_isCell : GoodIn wsX5_put (wsV RX5 105 RX5 yX5_isCell wsX5_isCell) := goodIn_app (goodIn_of _ (by decide +kernel)) ggX5_put_X5_isCell
set_option maxRecDepth 20000 in
theorem ggX5_put_X5_no : GoodIn wsX5_put wsX5_no := goodIn_r _ [16, 1, 17, 18, 19, 20, 21, 22, 23, 24, 25, 26, 27, 28] (by decide +kernel) (by decide +kernel)
set_option maxRecDepth 20000 in
theorem gX5_put_X5_no : GoodIn wsX5_put (wsV RX5 102 RX5 yX5_no wsX5_no) := goodIn_app (goodIn_of _ (by decide +kernel)) ggX5_put_X5_no
set_option maxRecDepth 20000 in
theorem ggX5_put_X5_isIn : GoodIn wsX5_put wsX5_isIn := goodIn_r _ [12] (by decide +kernel) (by decide +kernel)
set_option maxRecDepth 20000 in
theorem gX5_put_X5_isIn : GoodIn wsX5_put (va_wsS RX5 50 yX5_isIn wsX5_isIn) := goodIn_app (goodIn_of _ (by decide +kernel)) ggX5_put_X5_isIn
theorem dX5_put_0 : decode cX5_put 0 = .ok (.aload_n 0, 1) := by decide +kernel
theorem dX5_put_1 : decode cX5_put 1 = .ok (.iconst 0, 1) := by decide +kernel
theorem dX5_put_2 : decode cX5_put 2 = .ok (.putfield 47, 3) := by decide +kernel
theorem dX5_put_5 : decode cX5_put 5 = .ok (.aload_n 0, 1) := by decide +kernel
theorem dX5_put_6 : decode cX5_put 6 = .ok (.iload_n 1, 1) := by decide +kernel
theorem dX5_put_7 : decode cX5_put 7 = .ok (.invokevirtual 105, 3) := by decide +kernel
theorem dX5_put_10 : decode cX5_put 10 = .ok (.ifCond .ne 9, 3) := by decide +kernel
theorem dX5_put_13 : decode cX5_put 13 = .ok (.aload_n 0, 1) := by decide +kernel
theorem dX5_put_14 : decode cX5_put 14 = .ok (.iconst 1, 1) := by decide +kernel
theorem dX5_put_15 : decode cX5_put 15 = .ok (.invokevirtual 102, 3) := by decide +kernel
theorem dX5_put_18 : decode cX5_put 18 = .ok (.ireturn, 1) := by decide +kernel
theorem dX5_put_19 : decode cX5_put 19 = .ok (.iload_n 2, 1) := by decide +kernel
theorem dX5_put_20 : decode cX5_put 20 = .ok (.iconst 0, 1) := by decide +kernel
theorem dX5_put_21 : decode cX5_put 21 = .ok (.bipush 9, 2) := by decide +kernel
theorem dX5_put_23 : decode cX5_put 23 = .ok (.invokestatic 50, 3) := by decide +kernel
theorem dX5_put_26 : decode cX5_put 26 = .ok (.ifCond .ne 9, 3) := by decide +kernel
theorem dX5_put_29 : decode cX5_put 29 = .ok (.aload_n 0, 1) := by decide +kernel
theorem dX5_put_30 : decode cX5_put 30 = .ok (.iconst 2, 1) := by decide +kernel
theorem dX5_put_31 : decode cX5_put 31 = .ok (.invokevirtual 102, 3) := by decide +kernel
theorem dX5_put_34 : decode cX5_put 34 = .ok (.ireturn, 1) := by decide +kernel
theorem dX5_put_35 : decode cX5_put 35 = .ok (.aload_n 0, 1) := by decide +kernel
theorem dX5_put_36 : decode cX5_put 36 = .ok (.getfield 16, 3) := by decide +kernel
theorem dX5_put_39 : decode cX5_put 39 = .ok (.iload_n 1, 1) := by decide +kernel
theorem dX5_put_40 : decode cX5_put 40 = .ok (.iaload, 1) := by decide +kernel
theorem dX5_put_41 : decode cX5_put 41 = .ok (.iconst (-1), 1) := by decide +kernel
theorem dX5_put_42 : decode cX5_put 42 = .ok (.if_icmp .ne 9, 3) := by decide +kernel
theorem dX5_put_45 : decode cX5_put 45 = .ok (.aload_n 0, 1) := by decide +kernel
theorem dX5_put_46 : decode cX5_put 46 = .ok (.iconst 3, 1) := by decide +kernel
theorem dX5_put_47 : decode cX5_put 47 = .ok (.invokevirtual 102, 3) := by decide +kernel
theorem dX5_put_50 : decode cX5_put 50 = .ok (.ireturn, 1) := by decide +kernel
theorem dX5_put_51 : decode cX5_put 51 = .ok (.aload_n 0, 1) := by decide +kernel
theorem dX5_put_52 : decode cX5_put 52 = .ok (.getfield 16, 3) := by decide +kernel
theorem dX5_put_55 : decode cX5_put 55 = .ok (.iload_n 1, 1) := by decide +kernel
theorem dX5_put_56 : decode cX5_put 56 = .ok (.iaload, 1) := by decide +kernel
theorem dX5_put_57 : decode cX5_put 57 = .ok (.istore_n 3, 1) := by decide +kernel
theorem dX5_put_58 : decode cX5_put 58 = .ok (.aload_n 0, 1) := by decide +kernel
theorem dX5_put_59 : decode cX5_put 59 = .ok (.getfield 16, 3) := by decide +kernel
theorem dX5_put_62 : decode cX5_put 62 = .ok (.iload_n 1, 1) := by decide +kernel
theorem dX5_put_63 : decode cX5_put 63 = .ok (.iload_n 2, 1) := by decide +kernel
theorem dX5_put_64 : decode cX5_put 64 = .ok (.iastore, 1) := by decide +kernel
theorem dX5_put_65 : decode cX5_put 65 = .ok (.iload_n 3, 1) := by decide +kernel
theorem dX5_put_66 : decode cX5_put 66 = .ok (.ireturn, 1) := by decide +kernel
set_option maxRecDepth 20000 in
theorem ggX5_single_X5_canOf : GoodIn wsX5_single wsX5_canOf := goodIn_r _ [7, 8, 9, 10, 11, 6, 12, 13, 14, 15, 16, 17, 18, 19, 20, 21, 22, 23, 24, 25, 26, 27, 28, 29, 30, 1, 2, 31, 32, 33, 34, 35, 36, 37, 38, 39, 47, 48, 49, 50, 51, 52, 53, 54, 55, 56, 57, 58] (by decide +kernel) (by decide +kernel)
set_option maxRecDepth 20000 in
theorem gX5_single_X5_canOf : GoodIn wsX5_single (wsV RX5 108 RX5 yX5_canOf wsX5_canOf) := goodIn_app (goodIn_of _ (by decide +kernel)) ggX5_single_X5_canOf
set_option maxRecDepth 20000 in
theorem ggX5_single_J6_bitCount_0f7a4 : GoodIn wsX5_single wsJ6_bitCount_0f7a4 := goodIn_r _ [43, 44, 45, 46] (by decide +kernel) (by decide +kernel)
set_option maxRecDepth 20000 in
theorem gX5_single_J6_bitCount_0f7a4 : GoodIn wsX5_single (va_wsS RX5 35 yJ6_bitCount_0f7a4 wsJ6_bitCount_0f7a4) := goodIn_app (goodIn_of _ (by decide +kernel)) ggX5_single_J6_bitCount_0f7a4
theorem dX5_single_0 : decode cX5_single 0 = .ok (.iconst 0, 1) := by decide +kernel
theorem dX5_single_1 : decode cX5_single 1 = .ok (.istore_n 1, 1) := by decide +kernel
theorem dX5_single_2 : decode cX5_single 2 = .ok (.iload_n 1, 1) := by decide +kernel
theorem dX5_single_3 : decode cX5_single 3 = .ok (.aload_n 0, 1) := by decide +kernel
theorem dX5_single_4 : decode cX5_single 4 = .ok (.getfield 7, 3) := by decide +kernel
theorem dX5_single_7 : decode cX5_single 7 = .ok (.aload_n 0, 1) := by decide +kernel
theorem dX5_single_8 : decode cX5_single 8 = .ok (.getfield 13, 3) := by decide +kernel
theorem dX5_single_11 : decode cX5_single 11 = .ok (.imul, 1) := by decide +kernel
theorem dX5_single_12 : decode cX5_single 12 = .ok (.if_icmp .ge 23, 3) := by decide +kernel
theorem dX5_single_15 : decode cX5_single 15 = .ok (.aload_n 0, 1) := by decide +kernel
theorem dX5_single_16 : decode cX5_single 16 = .ok (.iload_n 1, 1) := by decide +kernel
theorem dX5_single_17 : decode cX5_single 17 = .ok (.invokevirtual 108, 3) := by decide +kernel
theorem dX5_single_20 : decode cX5_single 20 = .ok (.invokestatic 35, 3) := by decide +kernel
theorem dX5_single_23 : decode cX5_single 23 = .ok (.iconst 1, 1) := by decide +kernel
theorem dX5_single_24 : decode cX5_single 24 = .ok (.if_icmp .ne 5, 3) := by decide +kernel
theorem dX5_single_27 : decode cX5_single 27 = .ok (.iload_n 1, 1) := by decide +kernel
theorem dX5_single_28 : decode cX5_single 28 = .ok (.ireturn, 1) := by decide +kernel
theorem dX5_single_29 : decode cX5_single 29 = .ok (.iinc 1 1, 3) := by decide +kernel
theorem dX5_single_32 : decode cX5_single 32 = .ok (.goto (-30), 3) := by decide +kernel
theorem dX5_single_35 : decode cX5_single 35 = .ok (.iconst (-1), 1) := by decide +kernel
theorem dX5_single_36 : decode cX5_single 36 = .ok (.ireturn, 1) := by decide +kernel
set_option maxRecDepth 20000 in
theorem ggX5_force_X5_single : GoodIn wsX5_force wsX5_single := goodIn_r _ [7, 8, 9, 10, 11, 12, 6, 13, 2, 14, 15, 16, 17, 18, 19, 20, 21, 22, 23, 24, 25, 26, 27, 28, 29, 30, 31, 32, 33, 34, 35, 36, 37, 38, 39, 40, 41, 42, 43, 44, 45, 46, 47, 48, 49, 50, 51, 56, 57, 58, 59, 60, 61, 62, 63, 64, 65, 66, 67] (by decide +kernel) (by decide +kernel)
set_option maxRecDepth 20000 in
theorem gX5_force_X5_single : GoodIn wsX5_force (wsV RX5 111 RX5 yX5_single wsX5_single) := goodIn_app (goodIn_of _ (by decide +kernel)) ggX5_force_X5_single
set_option maxRecDepth 20000 in
theorem ggX5_force_X5_canOf : GoodIn wsX5_force wsX5_canOf := goodIn_r _ [13, 2, 14, 15, 16, 6, 17, 18, 19, 20, 21, 22, 23, 24, 25, 26, 27, 28, 29, 30, 31, 32, 33, 34, 35, 8, 9, 36, 37, 38, 39, 40, 41, 42, 43, 44, 56, 57, 58, 59, 60, 61, 62, 63, 64, 65, 66, 67] (by decide +kernel) (by decide +kernel)
set_option maxRecDepth 20000 in
theorem gX5_force_X5_canOf : GoodIn wsX5_force (wsV RX5 108 RX5 yX5_canOf wsX5_canOf) := goodIn_app (goodIn_of _ (by decide +kernel)) ggX5_force_X5_canOf
set_option maxRecDepth 20000 in
theorem ggX5_force_J6_numberOfTrailingZeros_0f7a4 : GoodIn wsX5_force wsJ6_numberOfTrailingZeros_0f7a4 := goodIn_r _ [54, 55] (by decide +kernel) (by decide +kernel)
set_option maxRecDepth 20000 in
theorem gX5_force_J6_numberOfTrailingZeros_0f7a4 : GoodIn wsX5_force (va_wsS RX5 115 yJ6_numberOfTrailingZeros_0f7a4 wsJ6_numberOfTrailingZeros_0f7a4) := goodIn_app (goodIn_of _ (by decide +kernel)) ggX5_force_J6_numberOfTrailingZeros_0f7a4
theorem dX5_force_0 : decode cX5_force 0 = .ok (.aload_n 0, 1) := by decide +kernel
theorem dX5_force_1 : decode cX5_force 1 = .ok (.iconst 0, 1) := by decide +kernel
theorem dX5_force_2 : decode cX5_force 2 = .ok (.putfield 47, 3) := by decide +kernel
theorem dX5_force_5 : decode cX5_force 5 = .ok (.iconst 0, 1) := by decide +kernel
theorem dX5_force_6 : decode cX5_force 6 = .ok (.istore_n 1, 1) := by decide +kernel
theorem dX5_force_7 : decode cX5_force 7 = .ok (.aload_n 0, 1) := by decide +kernel
theorem dX5_force_8 : decode cX5_force 8 = .ok (.invokevirtual 111, 3) := by decide +kernel
theorem dX5_force_11 : decode cX5_force 11 = .ok (.istore_n 2, 1) := by decide +kernel
theorem dX5_force_12 : decode cX5_force 12 = .ok (.iload_n 2, 1) := by decide +kernel
theorem dX5_force_13 : decode cX5_force 13 = .ok (.iconst (-1), 1) := by decide +kernel
theorem dX5_force_14 : decode cX5_force 14 = .ok (.if_icmp .eq 28, 3) := by decide +kernel
theorem dX5_force_17 : decode cX5_force 17 = .ok (.aload_n 0, 1) := by decide +kernel
theorem dX5_force_18 : decode cX5_force 18 = .ok (.getfield 16, 3) := by decide +kernel
theorem dX5_force_21 : decode cX5_force 21 = .ok (.iload_n 2, 1) := by decide +kernel
theorem dX5_force_22 : decode cX5_force 22 = .ok (.aload_n 0, 1) := by decide +kernel
theorem dX5_force_23 : decode cX5_force 23 = .ok (.iload_n 2, 1) := by decide +kernel
theorem dX5_force_24 : decode cX5_force 24 = .ok (.invokevirtual 108, 3) := by decide +kernel
theorem dX5_force_27 : decode cX5_force 27 = .ok (.invokestatic 115, 3) := by decide +kernel
theorem dX5_force_30 : decode cX5_force 30 = .ok (.iastore, 1) := by decide +kernel
theorem dX5_force_31 : decode cX5_force 31 = .ok (.iinc 1 1, 3) := by decide +kernel
theorem dX5_force_34 : decode cX5_force 34 = .ok (.aload_n 0, 1) := by decide +kernel
theorem dX5_force_35 : decode cX5_force 35 = .ok (.invokevirtual 111, 3) := by decide +kernel
theorem dX5_force_38 : decode cX5_force 38 = .ok (.istore_n 2, 1) := by decide +kernel
theorem dX5_force_39 : decode cX5_force 39 = .ok (.goto (-27), 3) := by decide +kernel
theorem dX5_force_42 : decode cX5_force 42 = .ok (.iload_n 1, 1) := by decide +kernel
theorem dX5_force_43 : decode cX5_force 43 = .ok (.ireturn, 1) := by decide +kernel
set_option maxRecDepth 20000 in
theorem ggX5_stone_X5_isCell : GoodIn wsX5_stone wsX5_isCell := goodIn_r _ [7, 8, 9, 10, 11, 6, 12, 17, 18, 19, 20, 21, 22, 23, 24, 25, 26, 27, 28] (by decide +kernel) (by decide +kernel)
set_option maxRecDepth 20000 in
theorem gX5_stone_X5_isCell : GoodIn wsX5_stone (wsV RX5 105 RX5 yX5_isCell wsX5_isCell) := goodIn_app (goodIn_of _ (by decide +kernel)) ggX5_stone_X5_isCell
set_option maxRecDepth 20000 in
theorem ggX5_stone_X5_no : GoodIn wsX5_stone wsX5_no := goodIn_r _ [16, 1, 17, 18, 19, 20, 21, 22, 23, 24, 25, 26, 27, 28] (by decide +kernel) (by decide +kernel)
set_option maxRecDepth 20000 in
theorem gX5_stone_X5_no : GoodIn wsX5_stone (wsV RX5 102 RX5 yX5_no wsX5_no) := goodIn_app (goodIn_of _ (by decide +kernel)) ggX5_stone_X5_no
theorem dX5_stone_0 : decode cX5_stone 0 = .ok (.aload_n 0, 1) := by decide +kernel
theorem dX5_stone_1 : decode cX5_stone 1 = .ok (.iconst 0, 1) := by decide +kernel
theorem dX5_stone_2 : decode cX5_stone 2 = .ok (.putfield 47, 3) := by decide +kernel
theorem dX5_stone_5 : decode cX5_stone 5 = .ok (.aload_n 0, 1) := by decide +kernel
theorem dX5_stone_6 : decode cX5_stone 6 = .ok (.iload_n 1, 1) := by decide +kernel
theorem dX5_stone_7 : decode cX5_stone 7 = .ok (.invokevirtual 105, 3) := by decide +kernel
theorem dX5_stone_10 : decode cX5_stone 10 = .ok (.ifCond .eq 12, 3) := by decide +kernel
theorem dX5_stone_13 : decode cX5_stone 13 = .ok (.aload_n 0, 1) := by decide +kernel
theorem dX5_stone_14 : decode cX5_stone 14 = .ok (.getfield 16, 3) := by decide +kernel
theorem dX5_stone_17 : decode cX5_stone 17 = .ok (.iload_n 1, 1) := by decide +kernel
theorem dX5_stone_18 : decode cX5_stone 18 = .ok (.iaload, 1) := by decide +kernel
theorem dX5_stone_19 : decode cX5_stone 19 = .ok (.goto 8, 3) := by decide +kernel
theorem dX5_stone_22 : decode cX5_stone 22 = .ok (.aload_n 0, 1) := by decide +kernel
theorem dX5_stone_23 : decode cX5_stone 23 = .ok (.iconst 1, 1) := by decide +kernel
theorem dX5_stone_24 : decode cX5_stone 24 = .ok (.invokevirtual 102, 3) := by decide +kernel
theorem dX5_stone_27 : decode cX5_stone 27 = .ok (.ireturn, 1) := by decide +kernel
set_option maxRecDepth 20000 in
theorem ggX5_corridorTold_X5_beginOf : GoodIn wsX5_corridorTold wsX5_beginOf := goodIn_r _ [7, 8, 32, 33, 34, 35, 36, 37, 38, 39, 40, 41, 42, 43] (by decide +kernel) (by decide +kernel)
set_option maxRecDepth 20000 in
theorem gX5_corridorTold_X5_beginOf : GoodIn wsX5_corridorTold (wsV RX5 54 RX5 yX5_beginOf wsX5_beginOf) := goodIn_app (goodIn_of _ (by decide +kernel)) ggX5_corridorTold_X5_beginOf
set_option maxRecDepth 20000 in
theorem ggX5_corridorTold_X5_isOpen : GoodIn wsX5_corridorTold wsX5_isOpen := goodIn_r _ [12, 1, 32, 33, 34, 35, 36, 37, 38, 39, 40, 41, 42, 43] (by decide +kernel) (by decide +kernel)
set_option maxRecDepth 20000 in
theorem gX5_corridorTold_X5_isOpen : GoodIn wsX5_corridorTold (wsV RX5 58 RX5 yX5_isOpen wsX5_isOpen) := goodIn_app (goodIn_of _ (by decide +kernel)) ggX5_corridorTold_X5_isOpen
set_option maxRecDepth 20000 in
theorem ggX5_corridorTold_X5_behind : GoodIn wsX5_corridorTold wsX5_behind := goodIn_r _ [16, 17, 18, 32, 33, 34, 35, 36, 37, 38, 39, 40, 41, 42, 43] (by decide +kernel) (by decide +kernel)
set_option maxRecDepth 20000 in
theorem gX5_corridorTold_X5_behind : GoodIn wsX5_corridorTold (wsV RX5 62 RX5 yX5_behind wsX5_behind) := goodIn_app (goodIn_of _ (by decide +kernel)) ggX5_corridorTold_X5_behind
set_option maxRecDepth 20000 in
theorem ggX5_corridorTold_X5_isWell : GoodIn wsX5_corridorTold wsX5_isWell := goodIn_r _ [22, 1, 2, 3, 4, 5, 6, 7, 8, 9, 10, 11, 12, 13, 14, 15, 16, 17, 18, 23, 24, 25, 26, 27, 28, 29, 30, 31, 32, 33, 34, 35, 36, 37, 38, 39, 40, 41, 42, 43] (by decide +kernel) (by decide +kernel)
set_option maxRecDepth 20000 in
theorem gX5_corridorTold_X5_isWell : GoodIn wsX5_corridorTold (wsV RX5 68 RX5 yX5_isWell wsX5_isWell) := goodIn_app (goodIn_of _ (by decide +kernel)) ggX5_corridorTold_X5_isWell
theorem dX5_corridorTold_0 : decode cX5_corridorTold 0 = .ok (.aload_n 0, 1) := by decide +kernel
theorem dX5_corridorTold_1 : decode cX5_corridorTold 1 = .ok (.getfield 16, 3) := by decide +kernel
theorem dX5_corridorTold_4 : decode cX5_corridorTold 4 = .ok (.iload_n 1, 1) := by decide +kernel
theorem dX5_corridorTold_5 : decode cX5_corridorTold 5 = .ok (.iaload, 1) := by decide +kernel
theorem dX5_corridorTold_6 : decode cX5_corridorTold 6 = .ok (.iconst (-1), 1) := by decide +kernel
theorem dX5_corridorTold_7 : decode cX5_corridorTold 7 = .ok (.if_icmp .ne 5, 3) := by decide +kernel
theorem dX5_corridorTold_10 : decode cX5_corridorTold 10 = .ok (.iconst (-1), 1) := by decide +kernel
theorem dX5_corridorTold_11 : decode cX5_corridorTold 11 = .ok (.ireturn, 1) := by decide +kernel
theorem dX5_corridorTold_12 : decode cX5_corridorTold 12 = .ok (.aload_n 0, 1) := by decide +kernel
theorem dX5_corridorTold_13 : decode cX5_corridorTold 13 = .ok (.iload_n 1, 1) := by decide +kernel
theorem dX5_corridorTold_14 : decode cX5_corridorTold 14 = .ok (.iload_n 2, 1) := by decide +kernel
theorem dX5_corridorTold_15 : decode cX5_corridorTold 15 = .ok (.invokevirtual 54, 3) := by decide +kernel
theorem dX5_corridorTold_18 : decode cX5_corridorTold 18 = .ok (.istore 4, 2) := by decide +kernel
theorem dX5_corridorTold_20 : decode cX5_corridorTold 20 = .ok (.iconst 0, 1) := by decide +kernel
theorem dX5_corridorTold_21 : decode cX5_corridorTold 21 = .ok (.istore 5, 2) := by decide +kernel
theorem dX5_corridorTold_23 : decode cX5_corridorTold 23 = .ok (.iconst 0, 1) := by decide +kernel
theorem dX5_corridorTold_24 : decode cX5_corridorTold 24 = .ok (.istore 6, 2) := by decide +kernel
theorem dX5_corridorTold_26 : decode cX5_corridorTold 26 = .ok (.iconst 0, 1) := by decide +kernel
theorem dX5_corridorTold_27 : decode cX5_corridorTold 27 = .ok (.istore 7, 2) := by decide +kernel
theorem dX5_corridorTold_29 : decode cX5_corridorTold 29 = .ok (.iload 4, 2) := by decide +kernel
theorem dX5_corridorTold_31 : decode cX5_corridorTold 31 = .ok (.istore 8, 2) := by decide +kernel
theorem dX5_corridorTold_33 : decode cX5_corridorTold 33 = .ok (.aload_n 0, 1) := by decide +kernel
theorem dX5_corridorTold_34 : decode cX5_corridorTold 34 = .ok (.iload 8, 2) := by decide +kernel
theorem dX5_corridorTold_36 : decode cX5_corridorTold 36 = .ok (.invokevirtual 58, 3) := by decide +kernel
theorem dX5_corridorTold_39 : decode cX5_corridorTold 39 = .ok (.ifCond .eq 50, 3) := by decide +kernel
theorem dX5_corridorTold_42 : decode cX5_corridorTold 42 = .ok (.iinc 5 1, 3) := by decide +kernel
theorem dX5_corridorTold_45 : decode cX5_corridorTold 45 = .ok (.iload 6, 2) := by decide +kernel
theorem dX5_corridorTold_47 : decode cX5_corridorTold 47 = .ok (.aload_n 0, 1) := by decide +kernel
theorem dX5_corridorTold_48 : decode cX5_corridorTold 48 = .ok (.getfield 16, 3) := by decide +kernel
theorem dX5_corridorTold_51 : decode cX5_corridorTold 51 = .ok (.iload 8, 2) := by decide +kernel
theorem dX5_corridorTold_53 : decode cX5_corridorTold 53 = .ok (.iaload, 1) := by decide +kernel
theorem dX5_corridorTold_54 : decode cX5_corridorTold 54 = .ok (.ifCond .le 7, 3) := by decide +kernel
theorem dX5_corridorTold_57 : decode cX5_corridorTold 57 = .ok (.iconst 1, 1) := by decide +kernel
theorem dX5_corridorTold_58 : decode cX5_corridorTold 58 = .ok (.goto 4, 3) := by decide +kernel
theorem dX5_corridorTold_61 : decode cX5_corridorTold 61 = .ok (.iconst 0, 1) := by decide +kernel
theorem dX5_corridorTold_62 : decode cX5_corridorTold 62 = .ok (.iadd, 1) := by decide +kernel
theorem dX5_corridorTold_63 : decode cX5_corridorTold 63 = .ok (.istore 6, 2) := by decide +kernel
theorem dX5_corridorTold_65 : decode cX5_corridorTold 65 = .ok (.iload 7, 2) := by decide +kernel
theorem dX5_corridorTold_67 : decode cX5_corridorTold 67 = .ok (.aload_n 0, 1) := by decide +kernel
theorem dX5_corridorTold_68 : decode cX5_corridorTold 68 = .ok (.getfield 16, 3) := by decide +kernel
theorem dX5_corridorTold_71 : decode cX5_corridorTold 71 = .ok (.iload 8, 2) := by decide +kernel
theorem dX5_corridorTold_73 : decode cX5_corridorTold 73 = .ok (.iaload, 1) := by decide +kernel
theorem dX5_corridorTold_74 : decode cX5_corridorTold 74 = .ok (.iadd, 1) := by decide +kernel
theorem dX5_corridorTold_75 : decode cX5_corridorTold 75 = .ok (.istore 7, 2) := by decide +kernel
theorem dX5_corridorTold_77 : decode cX5_corridorTold 77 = .ok (.aload_n 0, 1) := by decide +kernel
theorem dX5_corridorTold_78 : decode cX5_corridorTold 78 = .ok (.iload 8, 2) := by decide +kernel
theorem dX5_corridorTold_80 : decode cX5_corridorTold 80 = .ok (.iload_n 2, 1) := by decide +kernel
theorem dX5_corridorTold_81 : decode cX5_corridorTold 81 = .ok (.invokevirtual 62, 3) := by decide +kernel
theorem dX5_corridorTold_84 : decode cX5_corridorTold 84 = .ok (.istore 8, 2) := by decide +kernel
theorem dX5_corridorTold_86 : decode cX5_corridorTold 86 = .ok (.goto (-53), 3) := by decide +kernel
theorem dX5_corridorTold_89 : decode cX5_corridorTold 89 = .ok (.iload_n 3, 1) := by decide +kernel
theorem dX5_corridorTold_90 : decode cX5_corridorTold 90 = .ok (.tableswitch 59 0 4 #[34, 37, 40, 53, 56], 34) := by decide +kernel
theorem dX5_corridorTold_124 : decode cX5_corridorTold 124 = .ok (.iload 4, 2) := by decide +kernel
theorem dX5_corridorTold_126 : decode cX5_corridorTold 126 = .ok (.ireturn, 1) := by decide +kernel
theorem dX5_corridorTold_127 : decode cX5_corridorTold 127 = .ok (.iload 5, 2) := by decide +kernel
theorem dX5_corridorTold_129 : decode cX5_corridorTold 129 = .ok (.ireturn, 1) := by decide +kernel
theorem dX5_corridorTold_130 : decode cX5_corridorTold 130 = .ok (.aload_n 0, 1) := by decide +kernel
theorem dX5_corridorTold_131 : decode cX5_corridorTold 131 = .ok (.getfield 20, 3) := by decide +kernel
theorem dX5_corridorTold_134 : decode cX5_corridorTold 134 = .ok (.bipush 36, 2) := by decide +kernel
theorem dX5_corridorTold_136 : decode cX5_corridorTold 136 = .ok (.iload_n 2, 1) := by decide +kernel
theorem dX5_corridorTold_137 : decode cX5_corridorTold 137 = .ok (.imul, 1) := by decide +kernel
theorem dX5_corridorTold_138 : decode cX5_corridorTold 138 = .ok (.iload 4, 2) := by decide +kernel
theorem dX5_corridorTold_140 : decode cX5_corridorTold 140 = .ok (.iadd, 1) := by decide +kernel
theorem dX5_corridorTold_141 : decode cX5_corridorTold 141 = .ok (.iaload, 1) := by decide +kernel
theorem dX5_corridorTold_142 : decode cX5_corridorTold 142 = .ok (.ireturn, 1) := by decide +kernel
theorem dX5_corridorTold_143 : decode cX5_corridorTold 143 = .ok (.iload 6, 2) := by decide +kernel
theorem dX5_corridorTold_145 : decode cX5_corridorTold 145 = .ok (.ireturn, 1) := by decide +kernel
theorem dX5_corridorTold_146 : decode cX5_corridorTold 146 = .ok (.iload 7, 2) := by decide +kernel
theorem dX5_corridorTold_148 : decode cX5_corridorTold 148 = .ok (.ireturn, 1) := by decide +kernel
theorem dX5_corridorTold_149 : decode cX5_corridorTold 149 = .ok (.aload_n 0, 1) := by decide +kernel
theorem dX5_corridorTold_150 : decode cX5_corridorTold 150 = .ok (.iload_n 1, 1) := by decide +kernel
theorem dX5_corridorTold_151 : decode cX5_corridorTold 151 = .ok (.iload_n 2, 1) := by decide +kernel
theorem dX5_corridorTold_152 : decode cX5_corridorTold 152 = .ok (.invokevirtual 68, 3) := by decide +kernel
theorem dX5_corridorTold_155 : decode cX5_corridorTold 155 = .ok (.ifCond .eq 7, 3) := by decide +kernel
theorem dX5_corridorTold_158 : decode cX5_corridorTold 158 = .ok (.iconst 1, 1) := by decide +kernel
theorem dX5_corridorTold_159 : decode cX5_corridorTold 159 = .ok (.goto 4, 3) := by decide +kernel
theorem dX5_corridorTold_162 : decode cX5_corridorTold 162 = .ok (.iconst 0, 1) := by decide +kernel
theorem dX5_corridorTold_163 : decode cX5_corridorTold 163 = .ok (.ireturn, 1) := by decide +kernel
set_option maxRecDepth 20000 in
theorem ggX5_corridor_X5_isCell : GoodIn wsX5_corridor wsX5_isCell := goodIn_r _ [6, 7, 8, 9, 10, 5, 11, 48, 49, 50, 51, 52, 53, 54, 55, 56, 57, 58, 59] (by decide +kernel) (by decide +kernel)
set_option maxRecDepth 20000 in
theorem gX5_corridor_X5_isCell : GoodIn wsX5_corridor (wsV RX5 105 RX5 yX5_isCell wsX5_isCell) := goodIn_app (goodIn_of _ (by decide +kernel)) ggX5_corridor_X5_isCell
set_option maxRecDepth 20000 in
theorem ggX5_corridor_X5_isIn : GoodIn wsX5_corridor wsX5_isIn := goodIn_r _ [11] (by decide +kernel) (by decide +kernel)
set_option maxRecDepth 20000 in
theorem gX5_corridor_X5_isIn : GoodIn wsX5_corridor (va_wsS RX5 50 yX5_isIn wsX5_isIn) := goodIn_app (goodIn_of _ (by decide +kernel)) ggX5_corridor_X5_isIn
set_option maxRecDepth 20000 in
theorem ggX5_corridor_X5_corridorTold : GoodIn wsX5_corridor wsX5_corridorTold := goodIn_r _ [15, 16, 17, 18, 19, 20, 5, 21, 22, 23, 24, 25, 26, 27, 28, 29, 30, 7, 8, 31, 32, 33, 34, 35, 36, 37, 38, 39, 40, 41, 42, 43, 48, 49, 50, 51, 52, 53, 54, 55, 56, 57, 58, 59] (by decide +kernel) (by decide +kernel)
set_option maxRecDepth 20000 in
theorem gX5_corridor_X5_corridorTold : GoodIn wsX5_corridor (wsV RX5 118 RX5 yX5_corridorTold wsX5_corridorTold) := goodIn_app (goodIn_of _ (by decide +kernel)) ggX5_corridor_X5_corridorTold
set_option maxRecDepth 20000 in
theorem ggX5_corridor_X5_no : GoodIn wsX5_corridor wsX5_no := goodIn_r _ [47, 1, 48, 49, 50, 51, 52, 53, 54, 55, 56, 57, 58, 59] (by decide +kernel) (by decide +kernel)
set_option maxRecDepth 20000 in
theorem gX5_corridor_X5_no : GoodIn wsX5_corridor (wsV RX5 102 RX5 yX5_no wsX5_no) := goodIn_app (goodIn_of _ (by decide +kernel)) ggX5_corridor_X5_no
theorem dX5_corridor_0 : decode cX5_corridor 0 = .ok (.aload_n 0, 1) := by decide +kernel
theorem dX5_corridor_1 : decode cX5_corridor 1 = .ok (.iconst 0, 1) := by decide +kernel
theorem dX5_corridor_2 : decode cX5_corridor 2 = .ok (.putfield 47, 3) := by decide +kernel
theorem dX5_corridor_5 : decode cX5_corridor 5 = .ok (.aload_n 0, 1) := by decide +kernel
theorem dX5_corridor_6 : decode cX5_corridor 6 = .ok (.iload_n 1, 1) := by decide +kernel
theorem dX5_corridor_7 : decode cX5_corridor 7 = .ok (.invokevirtual 105, 3) := by decide +kernel
theorem dX5_corridor_10 : decode cX5_corridor 10 = .ok (.ifCond .eq 30, 3) := by decide +kernel
theorem dX5_corridor_13 : decode cX5_corridor 13 = .ok (.iload_n 3, 1) := by decide +kernel
theorem dX5_corridor_14 : decode cX5_corridor 14 = .ok (.iconst 0, 1) := by decide +kernel
theorem dX5_corridor_15 : decode cX5_corridor 15 = .ok (.iconst 5, 1) := by decide +kernel
theorem dX5_corridor_16 : decode cX5_corridor 16 = .ok (.invokestatic 50, 3) := by decide +kernel
theorem dX5_corridor_19 : decode cX5_corridor 19 = .ok (.ifCond .eq 21, 3) := by decide +kernel
theorem dX5_corridor_22 : decode cX5_corridor 22 = .ok (.aload_n 0, 1) := by decide +kernel
theorem dX5_corridor_23 : decode cX5_corridor 23 = .ok (.iload_n 1, 1) := by decide +kernel
theorem dX5_corridor_24 : decode cX5_corridor 24 = .ok (.iload_n 2, 1) := by decide +kernel
theorem dX5_corridor_25 : decode cX5_corridor 25 = .ok (.ifCond .eq 7, 3) := by decide +kernel
theorem dX5_corridor_28 : decode cX5_corridor 28 = .ok (.iconst 1, 1) := by decide +kernel
theorem dX5_corridor_29 : decode cX5_corridor 29 = .ok (.goto 4, 3) := by decide +kernel
theorem dX5_corridor_32 : decode cX5_corridor 32 = .ok (.iconst 0, 1) := by decide +kernel
theorem dX5_corridor_33 : decode cX5_corridor 33 = .ok (.iload_n 3, 1) := by decide +kernel
theorem dX5_corridor_34 : decode cX5_corridor 34 = .ok (.invokevirtual 118, 3) := by decide +kernel
theorem dX5_corridor_37 : decode cX5_corridor 37 = .ok (.goto 8, 3) := by decide +kernel
theorem dX5_corridor_40 : decode cX5_corridor 40 = .ok (.aload_n 0, 1) := by decide +kernel
theorem dX5_corridor_41 : decode cX5_corridor 41 = .ok (.iconst 1, 1) := by decide +kernel
theorem dX5_corridor_42 : decode cX5_corridor 42 = .ok (.invokevirtual 102, 3) := by decide +kernel
theorem dX5_corridor_45 : decode cX5_corridor 45 = .ok (.ireturn, 1) := by decide +kernel
set_option maxRecDepth 20000 in
theorem ggX5_can_X5_isCell : GoodIn wsX5_can wsX5_isCell := goodIn_r _ [6, 7, 8, 9, 10, 5, 11, 52, 53, 54, 55, 56, 57, 58, 59, 60, 61, 62, 63] (by decide +kernel) (by decide +kernel)
set_option maxRecDepth 20000 in
theorem gX5_can_X5_isCell : GoodIn wsX5_can (wsV RX5 105 RX5 yX5_isCell wsX5_isCell) := goodIn_app (goodIn_of _ (by decide +kernel)) ggX5_can_X5_isCell
set_option maxRecDepth 20000 in
theorem ggX5_can_X5_canOf : GoodIn wsX5_can wsX5_canOf := goodIn_r _ [15, 16, 17, 18, 19, 5, 20, 21, 22, 23, 24, 25, 26, 27, 28, 29, 30, 31, 32, 33, 34, 35, 36, 37, 38, 7, 8, 39, 40, 41, 42, 43, 44, 45, 46, 47, 52, 53, 54, 55, 56, 57, 58, 59, 60, 61, 62, 63] (by decide +kernel) (by decide +kernel)
set_option maxRecDepth 20000 in
theorem gX5_can_X5_canOf : GoodIn wsX5_can (wsV RX5 108 RX5 yX5_canOf wsX5_canOf) := goodIn_app (goodIn_of _ (by decide +kernel)) ggX5_can_X5_canOf
set_option maxRecDepth 20000 in
theorem ggX5_can_X5_no : GoodIn wsX5_can wsX5_no := goodIn_r _ [51, 1, 52, 53, 54, 55, 56, 57, 58, 59, 60, 61, 62, 63] (by decide +kernel) (by decide +kernel)
set_option maxRecDepth 20000 in
theorem gX5_can_X5_no : GoodIn wsX5_can (wsV RX5 102 RX5 yX5_no wsX5_no) := goodIn_app (goodIn_of _ (by decide +kernel)) ggX5_can_X5_no
theorem dX5_can_0 : decode cX5_can 0 = .ok (.aload_n 0, 1) := by decide +kernel
theorem dX5_can_1 : decode cX5_can 1 = .ok (.iconst 0, 1) := by decide +kernel
theorem dX5_can_2 : decode cX5_can 2 = .ok (.putfield 47, 3) := by decide +kernel
theorem dX5_can_5 : decode cX5_can 5 = .ok (.aload_n 0, 1) := by decide +kernel
theorem dX5_can_6 : decode cX5_can 6 = .ok (.iload_n 1, 1) := by decide +kernel
theorem dX5_can_7 : decode cX5_can 7 = .ok (.invokevirtual 105, 3) := by decide +kernel
theorem dX5_can_10 : decode cX5_can 10 = .ok (.ifCond .eq 11, 3) := by decide +kernel
theorem dX5_can_13 : decode cX5_can 13 = .ok (.aload_n 0, 1) := by decide +kernel
theorem dX5_can_14 : decode cX5_can 14 = .ok (.iload_n 1, 1) := by decide +kernel
theorem dX5_can_15 : decode cX5_can 15 = .ok (.invokevirtual 108, 3) := by decide +kernel
theorem dX5_can_18 : decode cX5_can 18 = .ok (.goto 8, 3) := by decide +kernel
theorem dX5_can_21 : decode cX5_can 21 = .ok (.aload_n 0, 1) := by decide +kernel
theorem dX5_can_22 : decode cX5_can 22 = .ok (.iconst 1, 1) := by decide +kernel
theorem dX5_can_23 : decode cX5_can 23 = .ok (.invokevirtual 102, 3) := by decide +kernel
theorem dX5_can_26 : decode cX5_can 26 = .ok (.ireturn, 1) := by decide +kernel
set_option maxRecDepth 20000 in
theorem ggX5_corridors_X5_beginOf : GoodIn wsX5_corridors wsX5_beginOf := goodIn_r _ [9, 10, 32, 33, 34, 35, 36, 37, 38, 39, 40, 41, 42, 43] (by decide +kernel) (by decide +kernel)
set_option maxRecDepth 20000 in
theorem gX5_corridors_X5_beginOf : GoodIn wsX5_corridors (wsV RX5 54 RX5 yX5_beginOf wsX5_beginOf) := goodIn_app (goodIn_of _ (by decide +kernel)) ggX5_corridors_X5_beginOf
set_option maxRecDepth 20000 in
theorem ggX5_corridors_X5_isWell : GoodIn wsX5_corridors wsX5_isWell := goodIn_r _ [14, 3, 4, 5, 6, 7, 8, 9, 10, 15, 16, 17, 18, 19, 20, 21, 22, 1, 2, 23, 24, 25, 26, 27, 28, 29, 30, 31, 32, 33, 34, 35, 36, 37, 38, 39, 40, 41, 42, 43] (by decide +kernel) (by decide +kernel)
set_option maxRecDepth 20000 in
theorem gX5_corridors_X5_isWell : GoodIn wsX5_corridors (wsV RX5 68 RX5 yX5_isWell wsX5_isWell) := goodIn_app (goodIn_of _ (by decide +kernel)) ggX5_corridors_X5_isWell
theorem dX5_corridors_0 : decode cX5_corridors 0 = .ok (.iconst 0, 1) := by decide +kernel
theorem dX5_corridors_1 : decode cX5_corridors 1 = .ok (.istore_n 2, 1) := by decide +kernel
theorem dX5_corridors_2 : decode cX5_corridors 2 = .ok (.iconst 0, 1) := by decide +kernel
theorem dX5_corridors_3 : decode cX5_corridors 3 = .ok (.istore_n 3, 1) := by decide +kernel
theorem dX5_corridors_4 : decode cX5_corridors 4 = .ok (.iload_n 3, 1) := by decide +kernel
theorem dX5_corridors_5 : decode cX5_corridors 5 = .ok (.iconst 2, 1) := by decide +kernel
theorem dX5_corridors_6 : decode cX5_corridors 6 = .ok (.aload_n 0, 1) := by decide +kernel
theorem dX5_corridors_7 : decode cX5_corridors 7 = .ok (.getfield 7, 3) := by decide +kernel
theorem dX5_corridors_10 : decode cX5_corridors 10 = .ok (.imul, 1) := by decide +kernel
theorem dX5_corridors_11 : decode cX5_corridors 11 = .ok (.aload_n 0, 1) := by decide +kernel
theorem dX5_corridors_12 : decode cX5_corridors 12 = .ok (.getfield 13, 3) := by decide +kernel
theorem dX5_corridors_15 : decode cX5_corridors 15 = .ok (.imul, 1) := by decide +kernel
theorem dX5_corridors_16 : decode cX5_corridors 16 = .ok (.if_icmp .ge 97, 3) := by decide +kernel
theorem dX5_corridors_19 : decode cX5_corridors 19 = .ok (.iload_n 3, 1) := by decide +kernel
theorem dX5_corridors_20 : decode cX5_corridors 20 = .ok (.iconst 2, 1) := by decide +kernel
theorem dX5_corridors_21 : decode cX5_corridors 21 = .ok (.idiv, 1) := by decide +kernel
theorem dX5_corridors_22 : decode cX5_corridors 22 = .ok (.istore 4, 2) := by decide +kernel
theorem dX5_corridors_24 : decode cX5_corridors 24 = .ok (.iload_n 3, 1) := by decide +kernel
theorem dX5_corridors_25 : decode cX5_corridors 25 = .ok (.iconst 2, 1) := by decide +kernel
theorem dX5_corridors_26 : decode cX5_corridors 26 = .ok (.irem, 1) := by decide +kernel
theorem dX5_corridors_27 : decode cX5_corridors 27 = .ok (.istore 5, 2) := by decide +kernel
theorem dX5_corridors_29 : decode cX5_corridors 29 = .ok (.aload_n 0, 1) := by decide +kernel
theorem dX5_corridors_30 : decode cX5_corridors 30 = .ok (.getfield 16, 3) := by decide +kernel
theorem dX5_corridors_33 : decode cX5_corridors 33 = .ok (.iload 4, 2) := by decide +kernel
theorem dX5_corridors_35 : decode cX5_corridors 35 = .ok (.iaload, 1) := by decide +kernel
theorem dX5_corridors_36 : decode cX5_corridors 36 = .ok (.iconst (-1), 1) := by decide +kernel
theorem dX5_corridors_37 : decode cX5_corridors 37 = .ok (.if_icmp .eq 70, 3) := by decide +kernel
theorem dX5_corridors_40 : decode cX5_corridors 40 = .ok (.aload_n 0, 1) := by decide +kernel
theorem dX5_corridors_41 : decode cX5_corridors 41 = .ok (.iload 4, 2) := by decide +kernel
theorem dX5_corridors_43 : decode cX5_corridors 43 = .ok (.iload 5, 2) := by decide +kernel
theorem dX5_corridors_45 : decode cX5_corridors 45 = .ok (.invokevirtual 54, 3) := by decide +kernel
theorem dX5_corridors_48 : decode cX5_corridors 48 = .ok (.iload 4, 2) := by decide +kernel
theorem dX5_corridors_50 : decode cX5_corridors 50 = .ok (.if_icmp .eq 6, 3) := by decide +kernel
theorem dX5_corridors_53 : decode cX5_corridors 53 = .ok (.goto 54, 3) := by decide +kernel
theorem dX5_corridors_56 : decode cX5_corridors 56 = .ok (.iload_n 2, 1) := by decide +kernel
theorem dX5_corridors_57 : decode cX5_corridors 57 = .ok (.iload_n 1, 1) := by decide +kernel
theorem dX5_corridors_58 : decode cX5_corridors 58 = .ok (.iconst 4, 1) := by decide +kernel
theorem dX5_corridors_59 : decode cX5_corridors 59 = .ok (.if_icmp .eq 41, 3) := by decide +kernel
theorem dX5_corridors_62 : decode cX5_corridors 62 = .ok (.iload_n 1, 1) := by decide +kernel
theorem dX5_corridors_63 : decode cX5_corridors 63 = .ok (.iconst 5, 1) := by decide +kernel
theorem dX5_corridors_64 : decode cX5_corridors 64 = .ok (.if_icmp .ne 19, 3) := by decide +kernel
theorem dX5_corridors_67 : decode cX5_corridors 67 = .ok (.aload_n 0, 1) := by decide +kernel
theorem dX5_corridors_68 : decode cX5_corridors 68 = .ok (.getfield 20, 3) := by decide +kernel
theorem dX5_corridors_71 : decode cX5_corridors 71 = .ok (.bipush 36, 2) := by decide +kernel
theorem dX5_corridors_73 : decode cX5_corridors 73 = .ok (.iload 5, 2) := by decide +kernel
theorem dX5_corridors_75 : decode cX5_corridors 75 = .ok (.imul, 1) := by decide +kernel
theorem dX5_corridors_76 : decode cX5_corridors 76 = .ok (.iload 4, 2) := by decide +kernel
theorem dX5_corridors_78 : decode cX5_corridors 78 = .ok (.iadd, 1) := by decide +kernel
theorem dX5_corridors_79 : decode cX5_corridors 79 = .ok (.iaload, 1) := by decide +kernel
theorem dX5_corridors_80 : decode cX5_corridors 80 = .ok (.ifCond .gt 20, 3) := by decide +kernel
theorem dX5_corridors_83 : decode cX5_corridors 83 = .ok (.iload_n 1, 1) := by decide +kernel
theorem dX5_corridors_84 : decode cX5_corridors 84 = .ok (.bipush 6, 2) := by decide +kernel
theorem dX5_corridors_86 : decode cX5_corridors 86 = .ok (.if_icmp .ne 18, 3) := by decide +kernel
theorem dX5_corridors_89 : decode cX5_corridors 89 = .ok (.aload_n 0, 1) := by decide +kernel
theorem dX5_corridors_90 : decode cX5_corridors 90 = .ok (.iload 4, 2) := by decide +kernel
theorem dX5_corridors_92 : decode cX5_corridors 92 = .ok (.iload 5, 2) := by decide +kernel
theorem dX5_corridors_94 : decode cX5_corridors 94 = .ok (.invokevirtual 68, 3) := by decide +kernel
theorem dX5_corridors_97 : decode cX5_corridors 97 = .ok (.ifCond .eq 7, 3) := by decide +kernel
theorem dX5_corridors_100 : decode cX5_corridors 100 = .ok (.iconst 1, 1) := by decide +kernel
theorem dX5_corridors_101 : decode cX5_corridors 101 = .ok (.goto 4, 3) := by decide +kernel
theorem dX5_corridors_104 : decode cX5_corridors 104 = .ok (.iconst 0, 1) := by decide +kernel
theorem dX5_corridors_105 : decode cX5_corridors 105 = .ok (.iadd, 1) := by decide +kernel
theorem dX5_corridors_106 : decode cX5_corridors 106 = .ok (.istore_n 2, 1) := by decide +kernel
theorem dX5_corridors_107 : decode cX5_corridors 107 = .ok (.iinc 3 1, 3) := by decide +kernel
theorem dX5_corridors_110 : decode cX5_corridors 110 = .ok (.goto (-106), 3) := by decide +kernel
theorem dX5_corridors_113 : decode cX5_corridors 113 = .ok (.iload_n 2, 1) := by decide +kernel
theorem dX5_corridors_114 : decode cX5_corridors 114 = .ok (.ireturn, 1) := by decide +kernel
set_option maxRecDepth 20000 in
theorem ggX5_counted_X5_corridors : GoodIn wsX5_counted wsX5_corridors := goodIn_r _ [8, 1, 2, 3, 9, 10, 11, 12, 7, 13, 14, 15, 16, 17, 18, 19, 20, 21, 22, 23, 24, 25, 26, 27, 28, 29, 30, 31, 32, 33, 34, 35, 51, 52, 53, 54, 55, 56, 57, 58, 59, 60, 61, 62] (by decide +kernel) (by decide +kernel)
set_option maxRecDepth 20000 in
theorem gX5_counted_X5_corridors : GoodIn wsX5_counted (wsV RX5 122 RX5 yX5_corridors wsX5_corridors) := goodIn_app (goodIn_of _ (by decide +kernel)) ggX5_counted_X5_corridors
set_option maxRecDepth 20000 in
theorem ggX5_counted_X5_canOf : GoodIn wsX5_counted wsX5_canOf := goodIn_r _ [39, 3, 40, 41, 42, 7, 43, 15, 16, 17, 18, 9, 10, 11, 12, 13, 14, 19, 20, 21, 22, 23, 24, 25, 26, 1, 2, 27, 28, 29, 30, 31, 32, 33, 34, 35, 51, 52, 53, 54, 55, 56, 57, 58, 59, 60, 61, 62] (by decide +kernel) (by decide +kernel)
set_option maxRecDepth 20000 in
theorem gX5_counted_X5_canOf : GoodIn wsX5_counted (wsV RX5 108 RX5 yX5_canOf wsX5_canOf) := goodIn_app (goodIn_of _ (by decide +kernel)) ggX5_counted_X5_canOf
set_option maxRecDepth 20000 in
theorem ggX5_counted_J6_bitCount_0f7a4 : GoodIn wsX5_counted wsJ6_bitCount_0f7a4 := goodIn_r _ [47, 48, 49, 50] (by decide +kernel) (by decide +kernel)
set_option maxRecDepth 20000 in
theorem gX5_counted_J6_bitCount_0f7a4 : GoodIn wsX5_counted (va_wsS RX5 35 yJ6_bitCount_0f7a4 wsJ6_bitCount_0f7a4) := goodIn_app (goodIn_of _ (by decide +kernel)) ggX5_counted_J6_bitCount_0f7a4
theorem dX5_counted_0 : decode cX5_counted 0 = .ok (.iconst 0, 1) := by decide +kernel
theorem dX5_counted_1 : decode cX5_counted 1 = .ok (.istore_n 2, 1) := by decide +kernel
theorem dX5_counted_2 : decode cX5_counted 2 = .ok (.iload_n 1, 1) := by decide +kernel
theorem dX5_counted_3 : decode cX5_counted 3 = .ok (.tableswitch 143 0 6 #[41, 51, 56, 97, 137, 137, 137], 41) := by decide +kernel
theorem dX5_counted_44 : decode cX5_counted 44 = .ok (.aload_n 0, 1) := by decide +kernel
theorem dX5_counted_45 : decode cX5_counted 45 = .ok (.getfield 7, 3) := by decide +kernel
theorem dX5_counted_48 : decode cX5_counted 48 = .ok (.aload_n 0, 1) := by decide +kernel
theorem dX5_counted_49 : decode cX5_counted 49 = .ok (.getfield 13, 3) := by decide +kernel
theorem dX5_counted_52 : decode cX5_counted 52 = .ok (.imul, 1) := by decide +kernel
theorem dX5_counted_53 : decode cX5_counted 53 = .ok (.ireturn, 1) := by decide +kernel
theorem dX5_counted_54 : decode cX5_counted 54 = .ok (.aload_n 0, 1) := by decide +kernel
theorem dX5_counted_55 : decode cX5_counted 55 = .ok (.getfield 7, 3) := by decide +kernel
theorem dX5_counted_58 : decode cX5_counted 58 = .ok (.ireturn, 1) := by decide +kernel
theorem dX5_counted_59 : decode cX5_counted 59 = .ok (.iconst 0, 1) := by decide +kernel
theorem dX5_counted_60 : decode cX5_counted 60 = .ok (.istore_n 3, 1) := by decide +kernel
theorem dX5_counted_61 : decode cX5_counted 61 = .ok (.iload_n 3, 1) := by decide +kernel
theorem dX5_counted_62 : decode cX5_counted 62 = .ok (.aload_n 0, 1) := by decide +kernel
theorem dX5_counted_63 : decode cX5_counted 63 = .ok (.getfield 7, 3) := by decide +kernel
theorem dX5_counted_66 : decode cX5_counted 66 = .ok (.aload_n 0, 1) := by decide +kernel
theorem dX5_counted_67 : decode cX5_counted 67 = .ok (.getfield 13, 3) := by decide +kernel
theorem dX5_counted_70 : decode cX5_counted 70 = .ok (.imul, 1) := by decide +kernel
theorem dX5_counted_71 : decode cX5_counted 71 = .ok (.if_icmp .ge 27, 3) := by decide +kernel
theorem dX5_counted_74 : decode cX5_counted 74 = .ok (.iload_n 2, 1) := by decide +kernel
theorem dX5_counted_75 : decode cX5_counted 75 = .ok (.aload_n 0, 1) := by decide +kernel
theorem dX5_counted_76 : decode cX5_counted 76 = .ok (.getfield 16, 3) := by decide +kernel
theorem dX5_counted_79 : decode cX5_counted 79 = .ok (.iload_n 3, 1) := by decide +kernel
theorem dX5_counted_80 : decode cX5_counted 80 = .ok (.iaload, 1) := by decide +kernel
theorem dX5_counted_81 : decode cX5_counted 81 = .ok (.iconst (-1), 1) := by decide +kernel
theorem dX5_counted_82 : decode cX5_counted 82 = .ok (.if_icmp .ne 7, 3) := by decide +kernel
theorem dX5_counted_85 : decode cX5_counted 85 = .ok (.iconst 0, 1) := by decide +kernel
theorem dX5_counted_86 : decode cX5_counted 86 = .ok (.goto 4, 3) := by decide +kernel
theorem dX5_counted_89 : decode cX5_counted 89 = .ok (.iconst 1, 1) := by decide +kernel
theorem dX5_counted_90 : decode cX5_counted 90 = .ok (.iadd, 1) := by decide +kernel
theorem dX5_counted_91 : decode cX5_counted 91 = .ok (.istore_n 2, 1) := by decide +kernel
theorem dX5_counted_92 : decode cX5_counted 92 = .ok (.iinc 3 1, 3) := by decide +kernel
theorem dX5_counted_95 : decode cX5_counted 95 = .ok (.goto (-34), 3) := by decide +kernel
theorem dX5_counted_98 : decode cX5_counted 98 = .ok (.iload_n 2, 1) := by decide +kernel
theorem dX5_counted_99 : decode cX5_counted 99 = .ok (.ireturn, 1) := by decide +kernel
theorem dX5_counted_100 : decode cX5_counted 100 = .ok (.iconst 0, 1) := by decide +kernel
theorem dX5_counted_101 : decode cX5_counted 101 = .ok (.istore_n 3, 1) := by decide +kernel
theorem dX5_counted_102 : decode cX5_counted 102 = .ok (.iload_n 3, 1) := by decide +kernel
theorem dX5_counted_103 : decode cX5_counted 103 = .ok (.aload_n 0, 1) := by decide +kernel
theorem dX5_counted_104 : decode cX5_counted 104 = .ok (.getfield 7, 3) := by decide +kernel
theorem dX5_counted_107 : decode cX5_counted 107 = .ok (.aload_n 0, 1) := by decide +kernel
theorem dX5_counted_108 : decode cX5_counted 108 = .ok (.getfield 13, 3) := by decide +kernel
theorem dX5_counted_111 : decode cX5_counted 111 = .ok (.imul, 1) := by decide +kernel
theorem dX5_counted_112 : decode cX5_counted 112 = .ok (.if_icmp .ge 26, 3) := by decide +kernel
theorem dX5_counted_115 : decode cX5_counted 115 = .ok (.iload_n 2, 1) := by decide +kernel
theorem dX5_counted_116 : decode cX5_counted 116 = .ok (.aload_n 0, 1) := by decide +kernel
theorem dX5_counted_117 : decode cX5_counted 117 = .ok (.getfield 16, 3) := by decide +kernel
theorem dX5_counted_120 : decode cX5_counted 120 = .ok (.iload_n 3, 1) := by decide +kernel
theorem dX5_counted_121 : decode cX5_counted 121 = .ok (.iaload, 1) := by decide +kernel
theorem dX5_counted_122 : decode cX5_counted 122 = .ok (.ifCond .le 7, 3) := by decide +kernel
theorem dX5_counted_125 : decode cX5_counted 125 = .ok (.iconst 1, 1) := by decide +kernel
theorem dX5_counted_126 : decode cX5_counted 126 = .ok (.goto 4, 3) := by decide +kernel
theorem dX5_counted_129 : decode cX5_counted 129 = .ok (.iconst 0, 1) := by decide +kernel
theorem dX5_counted_130 : decode cX5_counted 130 = .ok (.iadd, 1) := by decide +kernel
theorem dX5_counted_131 : decode cX5_counted 131 = .ok (.istore_n 2, 1) := by decide +kernel
theorem dX5_counted_132 : decode cX5_counted 132 = .ok (.iinc 3 1, 3) := by decide +kernel
theorem dX5_counted_135 : decode cX5_counted 135 = .ok (.goto (-33), 3) := by decide +kernel
theorem dX5_counted_138 : decode cX5_counted 138 = .ok (.iload_n 2, 1) := by decide +kernel
theorem dX5_counted_139 : decode cX5_counted 139 = .ok (.ireturn, 1) := by decide +kernel
theorem dX5_counted_140 : decode cX5_counted 140 = .ok (.aload_n 0, 1) := by decide +kernel
theorem dX5_counted_141 : decode cX5_counted 141 = .ok (.iload_n 1, 1) := by decide +kernel
theorem dX5_counted_142 : decode cX5_counted 142 = .ok (.invokevirtual 122, 3) := by decide +kernel
theorem dX5_counted_145 : decode cX5_counted 145 = .ok (.ireturn, 1) := by decide +kernel
theorem dX5_counted_146 : decode cX5_counted 146 = .ok (.iconst 0, 1) := by decide +kernel
theorem dX5_counted_147 : decode cX5_counted 147 = .ok (.istore_n 3, 1) := by decide +kernel
theorem dX5_counted_148 : decode cX5_counted 148 = .ok (.iload_n 3, 1) := by decide +kernel
theorem dX5_counted_149 : decode cX5_counted 149 = .ok (.aload_n 0, 1) := by decide +kernel
theorem dX5_counted_150 : decode cX5_counted 150 = .ok (.getfield 7, 3) := by decide +kernel
theorem dX5_counted_153 : decode cX5_counted 153 = .ok (.aload_n 0, 1) := by decide +kernel
theorem dX5_counted_154 : decode cX5_counted 154 = .ok (.getfield 13, 3) := by decide +kernel
theorem dX5_counted_157 : decode cX5_counted 157 = .ok (.imul, 1) := by decide +kernel
theorem dX5_counted_158 : decode cX5_counted 158 = .ok (.if_icmp .ge 41, 3) := by decide +kernel
theorem dX5_counted_161 : decode cX5_counted 161 = .ok (.iload_n 2, 1) := by decide +kernel
theorem dX5_counted_162 : decode cX5_counted 162 = .ok (.aload_n 0, 1) := by decide +kernel
theorem dX5_counted_163 : decode cX5_counted 163 = .ok (.getfield 16, 3) := by decide +kernel
theorem dX5_counted_166 : decode cX5_counted 166 = .ok (.iload_n 3, 1) := by decide +kernel
theorem dX5_counted_167 : decode cX5_counted 167 = .ok (.iaload, 1) := by decide +kernel
theorem dX5_counted_168 : decode cX5_counted 168 = .ok (.ifCond .ne 22, 3) := by decide +kernel
theorem dX5_counted_171 : decode cX5_counted 171 = .ok (.aload_n 0, 1) := by decide +kernel
theorem dX5_counted_172 : decode cX5_counted 172 = .ok (.iload_n 3, 1) := by decide +kernel
theorem dX5_counted_173 : decode cX5_counted 173 = .ok (.invokevirtual 108, 3) := by decide +kernel
theorem dX5_counted_176 : decode cX5_counted 176 = .ok (.invokestatic 35, 3) := by decide +kernel
theorem dX5_counted_179 : decode cX5_counted 179 = .ok (.bipush 8, 2) := by decide +kernel
theorem dX5_counted_181 : decode cX5_counted 181 = .ok (.iload_n 1, 1) := by decide +kernel
theorem dX5_counted_182 : decode cX5_counted 182 = .ok (.isub, 1) := by decide +kernel
theorem dX5_counted_183 : decode cX5_counted 183 = .ok (.if_icmp .ne 7, 3) := by decide +kernel
theorem dX5_counted_186 : decode cX5_counted 186 = .ok (.iconst 1, 1) := by decide +kernel
theorem dX5_counted_187 : decode cX5_counted 187 = .ok (.goto 4, 3) := by decide +kernel
theorem dX5_counted_190 : decode cX5_counted 190 = .ok (.iconst 0, 1) := by decide +kernel
theorem dX5_counted_191 : decode cX5_counted 191 = .ok (.iadd, 1) := by decide +kernel
theorem dX5_counted_192 : decode cX5_counted 192 = .ok (.istore_n 2, 1) := by decide +kernel
theorem dX5_counted_193 : decode cX5_counted 193 = .ok (.iinc 3 1, 3) := by decide +kernel
theorem dX5_counted_196 : decode cX5_counted 196 = .ok (.goto (-48), 3) := by decide +kernel
theorem dX5_counted_199 : decode cX5_counted 199 = .ok (.iload_n 2, 1) := by decide +kernel
theorem dX5_counted_200 : decode cX5_counted 200 = .ok (.ireturn, 1) := by decide +kernel
set_option maxRecDepth 20000 in
theorem ggX5_count_X5_isIn : GoodIn wsX5_count wsX5_isIn := goodIn_r _ [5] (by decide +kernel) (by decide +kernel)
set_option maxRecDepth 20000 in
theorem gX5_count_X5_isIn : GoodIn wsX5_count (va_wsS RX5 50 yX5_isIn wsX5_isIn) := goodIn_app (goodIn_of _ (by decide +kernel)) ggX5_count_X5_isIn
set_option maxRecDepth 20000 in
theorem ggX5_count_X5_counted : GoodIn wsX5_count wsX5_counted := goodIn_r _ [9, 10, 11, 12, 13, 14, 15, 4, 16, 17, 18, 19, 20, 21, 22, 23, 24, 25, 26, 27, 28, 29, 30, 31, 32, 33, 34, 35, 36, 37, 38, 39, 40, 41, 42, 43, 44, 45, 46, 47, 48, 49, 50, 51, 52, 53, 54, 55, 56, 57, 58, 63, 64, 65, 66, 67, 68, 69, 70, 71, 72, 73, 74] (by decide +kernel) (by decide +kernel)
set_option maxRecDepth 20000 in
theorem gX5_count_X5_counted : GoodIn wsX5_count (wsV RX5 125 RX5 yX5_counted wsX5_counted) := goodIn_app (goodIn_of _ (by decide +kernel)) ggX5_count_X5_counted
set_option maxRecDepth 20000 in
theorem ggX5_count_X5_no : GoodIn wsX5_count wsX5_no := goodIn_r _ [62, 1, 63, 64, 65, 66, 67, 68, 69, 70, 71, 72, 73, 74] (by decide +kernel) (by decide +kernel)
set_option maxRecDepth 20000 in
theorem gX5_count_X5_no : GoodIn wsX5_count (wsV RX5 102 RX5 yX5_no wsX5_no) := goodIn_app (goodIn_of _ (by decide +kernel)) ggX5_count_X5_no
theorem dX5_count_0 : decode cX5_count 0 = .ok (.aload_n 0, 1) := by decide +kernel
theorem dX5_count_1 : decode cX5_count 1 = .ok (.iconst 0, 1) := by decide +kernel
theorem dX5_count_2 : decode cX5_count 2 = .ok (.putfield 47, 3) := by decide +kernel
theorem dX5_count_5 : decode cX5_count 5 = .ok (.iload_n 1, 1) := by decide +kernel
theorem dX5_count_6 : decode cX5_count 6 = .ok (.iconst 0, 1) := by decide +kernel
theorem dX5_count_7 : decode cX5_count 7 = .ok (.bipush 8, 2) := by decide +kernel
theorem dX5_count_9 : decode cX5_count 9 = .ok (.invokestatic 50, 3) := by decide +kernel
theorem dX5_count_12 : decode cX5_count 12 = .ok (.ifCond .eq 11, 3) := by decide +kernel
theorem dX5_count_15 : decode cX5_count 15 = .ok (.aload_n 0, 1) := by decide +kernel
theorem dX5_count_16 : decode cX5_count 16 = .ok (.iload_n 1, 1) := by decide +kernel
theorem dX5_count_17 : decode cX5_count 17 = .ok (.invokevirtual 125, 3) := by decide +kernel
theorem dX5_count_20 : decode cX5_count 20 = .ok (.goto 8, 3) := by decide +kernel
theorem dX5_count_23 : decode cX5_count 23 = .ok (.aload_n 0, 1) := by decide +kernel
theorem dX5_count_24 : decode cX5_count 24 = .ok (.iconst 1, 1) := by decide +kernel
theorem dX5_count_25 : decode cX5_count 25 = .ok (.invokevirtual 102, 3) := by decide +kernel
theorem dX5_count_28 : decode cX5_count 28 = .ok (.ireturn, 1) := by decide +kernel
theorem dX5_forcedOf_0 : decode cX5_forcedOf 0 = .ok (.bipush 46, 2) := by decide +kernel
theorem dX5_forcedOf_2 : decode cX5_forcedOf 2 = .ok (.iload_n 1, 1) := by decide +kernel
theorem dX5_forcedOf_3 : decode cX5_forcedOf 3 = .ok (.imul, 1) := by decide +kernel
theorem dX5_forcedOf_4 : decode cX5_forcedOf 4 = .ok (.iload_n 2, 1) := by decide +kernel
theorem dX5_forcedOf_5 : decode cX5_forcedOf 5 = .ok (.iadd, 1) := by decide +kernel
theorem dX5_forcedOf_6 : decode cX5_forcedOf 6 = .ok (.istore_n 3, 1) := by decide +kernel
theorem dX5_forcedOf_7 : decode cX5_forcedOf 7 = .ok (.aload_n 0, 1) := by decide +kernel
theorem dX5_forcedOf_8 : decode cX5_forcedOf 8 = .ok (.getfield 29, 3) := by decide +kernel
theorem dX5_forcedOf_11 : decode cX5_forcedOf 11 = .ok (.iload_n 3, 1) := by decide +kernel
theorem dX5_forcedOf_12 : decode cX5_forcedOf 12 = .ok (.iaload, 1) := by decide +kernel
theorem dX5_forcedOf_13 : decode cX5_forcedOf 13 = .ok (.aload_n 0, 1) := by decide +kernel
theorem dX5_forcedOf_14 : decode cX5_forcedOf 14 = .ok (.getfield 29, 3) := by decide +kernel
theorem dX5_forcedOf_17 : decode cX5_forcedOf 17 = .ok (.iload_n 3, 1) := by decide +kernel
theorem dX5_forcedOf_18 : decode cX5_forcedOf 18 = .ok (.iconst 1, 1) := by decide +kernel
theorem dX5_forcedOf_19 : decode cX5_forcedOf 19 = .ok (.iadd, 1) := by decide +kernel
theorem dX5_forcedOf_20 : decode cX5_forcedOf 20 = .ok (.iaload, 1) := by decide +kernel
theorem dX5_forcedOf_21 : decode cX5_forcedOf 21 = .ok (.if_icmp .ne 7, 3) := by decide +kernel
theorem dX5_forcedOf_24 : decode cX5_forcedOf 24 = .ok (.iconst 0, 1) := by decide +kernel
theorem dX5_forcedOf_25 : decode cX5_forcedOf 25 = .ok (.goto 6, 3) := by decide +kernel
theorem dX5_forcedOf_28 : decode cX5_forcedOf 28 = .ok (.sipush 1022, 3) := by decide +kernel
theorem dX5_forcedOf_31 : decode cX5_forcedOf 31 = .ok (.istore 4, 2) := by decide +kernel
theorem dX5_forcedOf_33 : decode cX5_forcedOf 33 = .ok (.aload_n 0, 1) := by decide +kernel
theorem dX5_forcedOf_34 : decode cX5_forcedOf 34 = .ok (.getfield 29, 3) := by decide +kernel
theorem dX5_forcedOf_37 : decode cX5_forcedOf 37 = .ok (.iload_n 3, 1) := by decide +kernel
theorem dX5_forcedOf_38 : decode cX5_forcedOf 38 = .ok (.iaload, 1) := by decide +kernel
theorem dX5_forcedOf_39 : decode cX5_forcedOf 39 = .ok (.istore 5, 2) := by decide +kernel
theorem dX5_forcedOf_41 : decode cX5_forcedOf 41 = .ok (.iload 5, 2) := by decide +kernel
theorem dX5_forcedOf_43 : decode cX5_forcedOf 43 = .ok (.aload_n 0, 1) := by decide +kernel
theorem dX5_forcedOf_44 : decode cX5_forcedOf 44 = .ok (.getfield 29, 3) := by decide +kernel
theorem dX5_forcedOf_47 : decode cX5_forcedOf 47 = .ok (.iload_n 3, 1) := by decide +kernel
theorem dX5_forcedOf_48 : decode cX5_forcedOf 48 = .ok (.iconst 1, 1) := by decide +kernel
theorem dX5_forcedOf_49 : decode cX5_forcedOf 49 = .ok (.iadd, 1) := by decide +kernel
theorem dX5_forcedOf_50 : decode cX5_forcedOf 50 = .ok (.iaload, 1) := by decide +kernel
theorem dX5_forcedOf_51 : decode cX5_forcedOf 51 = .ok (.if_icmp .ge 21, 3) := by decide +kernel
theorem dX5_forcedOf_54 : decode cX5_forcedOf 54 = .ok (.iload 4, 2) := by decide +kernel
theorem dX5_forcedOf_56 : decode cX5_forcedOf 56 = .ok (.aload_n 0, 1) := by decide +kernel
theorem dX5_forcedOf_57 : decode cX5_forcedOf 57 = .ok (.getfield 26, 3) := by decide +kernel
theorem dX5_forcedOf_60 : decode cX5_forcedOf 60 = .ok (.iload 5, 2) := by decide +kernel
theorem dX5_forcedOf_62 : decode cX5_forcedOf 62 = .ok (.iaload, 1) := by decide +kernel
theorem dX5_forcedOf_63 : decode cX5_forcedOf 63 = .ok (.iand, 1) := by decide +kernel
theorem dX5_forcedOf_64 : decode cX5_forcedOf 64 = .ok (.istore 4, 2) := by decide +kernel
theorem dX5_forcedOf_66 : decode cX5_forcedOf 66 = .ok (.iinc 5 1, 3) := by decide +kernel
theorem dX5_forcedOf_69 : decode cX5_forcedOf 69 = .ok (.goto (-28), 3) := by decide +kernel
theorem dX5_forcedOf_72 : decode cX5_forcedOf 72 = .ok (.iload 4, 2) := by decide +kernel
theorem dX5_forcedOf_74 : decode cX5_forcedOf 74 = .ok (.ireturn, 1) := by decide +kernel
set_option maxRecDepth 20000 in
theorem ggX5_ways_X5_isIn : GoodIn wsX5_ways wsX5_isIn := goodIn_r _ [6] (by decide +kernel) (by decide +kernel)
set_option maxRecDepth 20000 in
theorem gX5_ways_X5_isIn : GoodIn wsX5_ways (va_wsS RX5 50 yX5_isIn wsX5_isIn) := goodIn_app (goodIn_of _ (by decide +kernel)) ggX5_ways_X5_isIn
set_option maxRecDepth 20000 in
theorem ggX5_ways_X5_no : GoodIn wsX5_ways wsX5_no := goodIn_r _ [10, 1, 11, 12, 13, 14, 15, 16, 17, 18, 19, 20, 21, 22] (by decide +kernel) (by decide +kernel)
set_option maxRecDepth 20000 in
theorem gX5_ways_X5_no : GoodIn wsX5_ways (wsV RX5 102 RX5 yX5_no wsX5_no) := goodIn_app (goodIn_of _ (by decide +kernel)) ggX5_ways_X5_no
theorem dX5_ways_0 : decode cX5_ways 0 = .ok (.aload_n 0, 1) := by decide +kernel
theorem dX5_ways_1 : decode cX5_ways 1 = .ok (.iconst 0, 1) := by decide +kernel
theorem dX5_ways_2 : decode cX5_ways 2 = .ok (.putfield 47, 3) := by decide +kernel
theorem dX5_ways_5 : decode cX5_ways 5 = .ok (.iload_n 1, 1) := by decide +kernel
theorem dX5_ways_6 : decode cX5_ways 6 = .ok (.iconst 1, 1) := by decide +kernel
theorem dX5_ways_7 : decode cX5_ways 7 = .ok (.bipush 9, 2) := by decide +kernel
theorem dX5_ways_9 : decode cX5_ways 9 = .ok (.invokestatic 50, 3) := by decide +kernel
theorem dX5_ways_12 : decode cX5_ways 12 = .ok (.ifCond .eq 13, 3) := by decide +kernel
theorem dX5_ways_15 : decode cX5_ways 15 = .ok (.iload_n 2, 1) := by decide +kernel
theorem dX5_ways_16 : decode cX5_ways 16 = .ok (.iconst 1, 1) := by decide +kernel
theorem dX5_ways_17 : decode cX5_ways 17 = .ok (.bipush 45, 2) := by decide +kernel
theorem dX5_ways_19 : decode cX5_ways 19 = .ok (.invokestatic 50, 3) := by decide +kernel
theorem dX5_ways_22 : decode cX5_ways 22 = .ok (.ifCond .ne 9, 3) := by decide +kernel
theorem dX5_ways_25 : decode cX5_ways 25 = .ok (.aload_n 0, 1) := by decide +kernel
theorem dX5_ways_26 : decode cX5_ways 26 = .ok (.iconst 1, 1) := by decide +kernel
theorem dX5_ways_27 : decode cX5_ways 27 = .ok (.invokevirtual 102, 3) := by decide +kernel
theorem dX5_ways_30 : decode cX5_ways 30 = .ok (.ireturn, 1) := by decide +kernel
theorem dX5_ways_31 : decode cX5_ways 31 = .ok (.aload_n 0, 1) := by decide +kernel
theorem dX5_ways_32 : decode cX5_ways 32 = .ok (.getfield 29, 3) := by decide +kernel
theorem dX5_ways_35 : decode cX5_ways 35 = .ok (.bipush 46, 2) := by decide +kernel
theorem dX5_ways_37 : decode cX5_ways 37 = .ok (.iload_n 1, 1) := by decide +kernel
theorem dX5_ways_38 : decode cX5_ways 38 = .ok (.imul, 1) := by decide +kernel
theorem dX5_ways_39 : decode cX5_ways 39 = .ok (.iload_n 2, 1) := by decide +kernel
theorem dX5_ways_40 : decode cX5_ways 40 = .ok (.iadd, 1) := by decide +kernel
theorem dX5_ways_41 : decode cX5_ways 41 = .ok (.iconst 1, 1) := by decide +kernel
theorem dX5_ways_42 : decode cX5_ways 42 = .ok (.iadd, 1) := by decide +kernel
theorem dX5_ways_43 : decode cX5_ways 43 = .ok (.iaload, 1) := by decide +kernel
theorem dX5_ways_44 : decode cX5_ways 44 = .ok (.aload_n 0, 1) := by decide +kernel
theorem dX5_ways_45 : decode cX5_ways 45 = .ok (.getfield 29, 3) := by decide +kernel
theorem dX5_ways_48 : decode cX5_ways 48 = .ok (.bipush 46, 2) := by decide +kernel
theorem dX5_ways_50 : decode cX5_ways 50 = .ok (.iload_n 1, 1) := by decide +kernel
theorem dX5_ways_51 : decode cX5_ways 51 = .ok (.imul, 1) := by decide +kernel
theorem dX5_ways_52 : decode cX5_ways 52 = .ok (.iload_n 2, 1) := by decide +kernel
theorem dX5_ways_53 : decode cX5_ways 53 = .ok (.iadd, 1) := by decide +kernel
theorem dX5_ways_54 : decode cX5_ways 54 = .ok (.iaload, 1) := by decide +kernel
theorem dX5_ways_55 : decode cX5_ways 55 = .ok (.isub, 1) := by decide +kernel
theorem dX5_ways_56 : decode cX5_ways 56 = .ok (.ireturn, 1) := by decide +kernel
set_option maxRecDepth 20000 in
theorem ggX5_forced_X5_isIn : GoodIn wsX5_forced wsX5_isIn := goodIn_r _ [5] (by decide +kernel) (by decide +kernel)
set_option maxRecDepth 20000 in
theorem gX5_forced_X5_isIn : GoodIn wsX5_forced (va_wsS RX5 50 yX5_isIn wsX5_isIn) := goodIn_app (goodIn_of _ (by decide +kernel)) ggX5_forced_X5_isIn
set_option maxRecDepth 20000 in
theorem ggX5_forced_X5_forcedOf : GoodIn wsX5_forced wsX5_forcedOf := goodIn_r _ [9, 10, 11, 16, 17, 18, 19, 20, 21, 22, 23, 24, 25, 26, 27] (by decide +kernel) (by decide +kernel)
set_option maxRecDepth 20000 in
theorem gX5_forced_X5_forcedOf : GoodIn wsX5_forced (wsV RX5 128 RX5 yX5_forcedOf wsX5_forcedOf) := goodIn_app (goodIn_of _ (by decide +kernel)) ggX5_forced_X5_forcedOf
set_option maxRecDepth 20000 in
theorem ggX5_forced_X5_no : GoodIn wsX5_forced wsX5_no := goodIn_r _ [15, 1, 16, 17, 18, 19, 20, 21, 22, 23, 24, 25, 26, 27] (by decide +kernel) (by decide +kernel)
set_option maxRecDepth 20000 in
theorem gX5_forced_X5_no : GoodIn wsX5_forced (wsV RX5 102 RX5 yX5_no wsX5_no) := goodIn_app (goodIn_of _ (by decide +kernel)) ggX5_forced_X5_no
theorem dX5_forced_0 : decode cX5_forced 0 = .ok (.aload_n 0, 1) := by decide +kernel
theorem dX5_forced_1 : decode cX5_forced 1 = .ok (.iconst 0, 1) := by decide +kernel
theorem dX5_forced_2 : decode cX5_forced 2 = .ok (.putfield 47, 3) := by decide +kernel
theorem dX5_forced_5 : decode cX5_forced 5 = .ok (.iload_n 1, 1) := by decide +kernel
theorem dX5_forced_6 : decode cX5_forced 6 = .ok (.iconst 1, 1) := by decide +kernel
theorem dX5_forced_7 : decode cX5_forced 7 = .ok (.bipush 9, 2) := by decide +kernel
theorem dX5_forced_9 : decode cX5_forced 9 = .ok (.invokestatic 50, 3) := by decide +kernel
theorem dX5_forced_12 : decode cX5_forced 12 = .ok (.ifCond .eq 22, 3) := by decide +kernel
theorem dX5_forced_15 : decode cX5_forced 15 = .ok (.iload_n 2, 1) := by decide +kernel
theorem dX5_forced_16 : decode cX5_forced 16 = .ok (.iconst 1, 1) := by decide +kernel
theorem dX5_forced_17 : decode cX5_forced 17 = .ok (.bipush 45, 2) := by decide +kernel
theorem dX5_forced_19 : decode cX5_forced 19 = .ok (.invokestatic 50, 3) := by decide +kernel
theorem dX5_forced_22 : decode cX5_forced 22 = .ok (.ifCond .eq 12, 3) := by decide +kernel
theorem dX5_forced_25 : decode cX5_forced 25 = .ok (.aload_n 0, 1) := by decide +kernel
theorem dX5_forced_26 : decode cX5_forced 26 = .ok (.iload_n 1, 1) := by decide +kernel
theorem dX5_forced_27 : decode cX5_forced 27 = .ok (.iload_n 2, 1) := by decide +kernel
theorem dX5_forced_28 : decode cX5_forced 28 = .ok (.invokevirtual 128, 3) := by decide +kernel
theorem dX5_forced_31 : decode cX5_forced 31 = .ok (.goto 8, 3) := by decide +kernel
theorem dX5_forced_34 : decode cX5_forced 34 = .ok (.aload_n 0, 1) := by decide +kernel
theorem dX5_forced_35 : decode cX5_forced 35 = .ok (.iconst 1, 1) := by decide +kernel
theorem dX5_forced_36 : decode cX5_forced 36 = .ok (.invokevirtual 102, 3) := by decide +kernel
theorem dX5_forced_39 : decode cX5_forced 39 = .ok (.ireturn, 1) := by decide +kernel
set_option maxRecDepth 20000 in
theorem ggX5_fillings_X5_look : GoodIn wsX5_fillings wsX5_look := goodIn_r _ [6, 7, 8, 9, 10, 11, 12, 13, 5, 14, 15, 16, 17, 18, 19, 20, 21, 22, 23, 24, 25, 26, 27, 28, 29, 30, 31, 32, 33, 34, 35, 36, 37, 38, 39, 40, 41, 42, 43, 44, 45, 46, 47, 48, 49, 50, 51, 52, 53, 54, 55, 56, 57, 58, 59, 60, 65, 66, 67, 68, 69, 70, 71, 72, 73, 74, 75, 76] (by decide +kernel) (by decide +kernel)
set_option maxRecDepth 20000 in
theorem gX5_fillings_X5_look : GoodIn wsX5_fillings (wsV RX5 131 RX5 yX5_look wsX5_look) := goodIn_app (goodIn_of _ (by decide +kernel)) ggX5_fillings_X5_look
set_option maxRecDepth 20000 in
theorem ggX5_fillings_X5_told : GoodIn wsX5_fillings wsX5_told := goodIn_r _ [64, 9, 8, 65, 66, 67, 68, 69, 70, 71, 72, 73, 74, 75, 76] (by decide +kernel) (by decide +kernel)
set_option maxRecDepth 20000 in
theorem gX5_fillings_X5_told : GoodIn wsX5_fillings (wsV RX5 134 RX5 yX5_told wsX5_told) := goodIn_app (goodIn_of _ (by decide +kernel)) ggX5_fillings_X5_told
theorem dX5_fillings_0 : decode cX5_fillings 0 = .ok (.aload_n 0, 1) := by decide +kernel
theorem dX5_fillings_1 : decode cX5_fillings 1 = .ok (.iconst 0, 1) := by decide +kernel
theorem dX5_fillings_2 : decode cX5_fillings 2 = .ok (.putfield 47, 3) := by decide +kernel
theorem dX5_fillings_5 : decode cX5_fillings 5 = .ok (.aload_n 0, 1) := by decide +kernel
theorem dX5_fillings_6 : decode cX5_fillings 6 = .ok (.invokevirtual 131, 3) := by decide +kernel
theorem dX5_fillings_9 : decode cX5_fillings 9 = .ok (.aload_n 0, 1) := by decide +kernel
theorem dX5_fillings_10 : decode cX5_fillings 10 = .ok (.invokevirtual 134, 3) := by decide +kernel
theorem dX5_fillings_13 : decode cX5_fillings 13 = .ok (.ireturn, 1) := by decide +kernel
set_option maxRecDepth 20000 in
theorem ggX5_tries_X5_look : GoodIn wsX5_tries wsX5_look := goodIn_r _ [7, 2, 8, 9, 10, 11, 12, 13, 6, 14, 15, 16, 17, 18, 19, 20, 21, 22, 23, 24, 25, 26, 27, 28, 29, 30, 31, 32, 33, 34, 35, 36, 37, 38, 39, 40, 41, 42, 43, 44, 45, 46, 47, 48, 49, 50, 51, 52, 53, 54, 55, 56, 57, 58, 59, 60, 61, 62, 63, 64, 65, 66, 67, 68, 69, 70, 71, 72] (by decide +kernel) (by decide +kernel)
set_option maxRecDepth 20000 in
theorem gX5_tries_X5_look : GoodIn wsX5_tries (wsV RX5 131 RX5 yX5_look wsX5_look) := goodIn_app (goodIn_of _ (by decide +kernel)) ggX5_tries_X5_look
theorem dX5_tries_0 : decode cX5_tries 0 = .ok (.aload_n 0, 1) := by decide +kernel
theorem dX5_tries_1 : decode cX5_tries 1 = .ok (.iconst 0, 1) := by decide +kernel
theorem dX5_tries_2 : decode cX5_tries 2 = .ok (.putfield 47, 3) := by decide +kernel
theorem dX5_tries_5 : decode cX5_tries 5 = .ok (.aload_n 0, 1) := by decide +kernel
theorem dX5_tries_6 : decode cX5_tries 6 = .ok (.invokevirtual 131, 3) := by decide +kernel
theorem dX5_tries_9 : decode cX5_tries 9 = .ok (.aload_n 0, 1) := by decide +kernel
theorem dX5_tries_10 : decode cX5_tries 10 = .ok (.getfield 92, 3) := by decide +kernel
theorem dX5_tries_13 : decode cX5_tries 13 = .ok (.ireturn, 1) := by decide +kernel
set_option maxRecDepth 20000 in
theorem ggX5_solvedAt_X5_look : GoodIn wsX5_solvedAt wsX5_look := goodIn_r _ [9, 10, 2, 1, 4, 11, 12, 13, 8, 14, 15, 16, 3, 17, 18, 19, 20, 21, 22, 23, 24, 25, 26, 27, 28, 29, 30, 31, 32, 33, 34, 35, 36, 37, 38, 39, 40, 41, 42, 43, 44, 45, 46, 47, 48, 49, 50, 51, 52, 53, 54, 55, 56, 57, 58, 59, 60, 61, 62, 63, 64, 65, 66, 67, 68, 69, 70, 71] (by decide +kernel) (by decide +kernel)
set_option maxRecDepth 20000 in
theorem gX5_solvedAt_X5_look : GoodIn wsX5_solvedAt (wsV RX5 131 RX5 yX5_look wsX5_look) := goodIn_app (goodIn_of _ (by decide +kernel)) ggX5_solvedAt_X5_look
theorem dX5_solvedAt_0 : decode cX5_solvedAt 0 = .ok (.aload_n 0, 1) := by decide +kernel
theorem dX5_solvedAt_1 : decode cX5_solvedAt 1 = .ok (.invokevirtual 131, 3) := by decide +kernel
theorem dX5_solvedAt_4 : decode cX5_solvedAt 4 = .ok (.aload_n 0, 1) := by decide +kernel
theorem dX5_solvedAt_5 : decode cX5_solvedAt 5 = .ok (.getfield 75, 3) := by decide +kernel
theorem dX5_solvedAt_8 : decode cX5_solvedAt 8 = .ok (.ifCond .ne 20, 3) := by decide +kernel
theorem dX5_solvedAt_11 : decode cX5_solvedAt 11 = .ok (.aload_n 0, 1) := by decide +kernel
theorem dX5_solvedAt_12 : decode cX5_solvedAt 12 = .ok (.getfield 79, 3) := by decide +kernel
theorem dX5_solvedAt_15 : decode cX5_solvedAt 15 = .ok (.ifCond .eq 13, 3) := by decide +kernel
theorem dX5_solvedAt_18 : decode cX5_solvedAt 18 = .ok (.aload_n 0, 1) := by decide +kernel
theorem dX5_solvedAt_19 : decode cX5_solvedAt 19 = .ok (.getfield 16, 3) := by decide +kernel
theorem dX5_solvedAt_22 : decode cX5_solvedAt 22 = .ok (.iload_n 1, 1) := by decide +kernel
theorem dX5_solvedAt_23 : decode cX5_solvedAt 23 = .ok (.iaload, 1) := by decide +kernel
theorem dX5_solvedAt_24 : decode cX5_solvedAt 24 = .ok (.iconst (-1), 1) := by decide +kernel
theorem dX5_solvedAt_25 : decode cX5_solvedAt 25 = .ok (.if_icmp .ne 7, 3) := by decide +kernel
theorem dX5_solvedAt_28 : decode cX5_solvedAt 28 = .ok (.iconst 0, 1) := by decide +kernel
theorem dX5_solvedAt_29 : decode cX5_solvedAt 29 = .ok (.goto 9, 3) := by decide +kernel
theorem dX5_solvedAt_32 : decode cX5_solvedAt 32 = .ok (.aload_n 0, 1) := by decide +kernel
theorem dX5_solvedAt_33 : decode cX5_solvedAt 33 = .ok (.getfield 32, 3) := by decide +kernel
theorem dX5_solvedAt_36 : decode cX5_solvedAt 36 = .ok (.iload_n 1, 1) := by decide +kernel
theorem dX5_solvedAt_37 : decode cX5_solvedAt 37 = .ok (.iaload, 1) := by decide +kernel
theorem dX5_solvedAt_38 : decode cX5_solvedAt 38 = .ok (.ireturn, 1) := by decide +kernel
set_option maxRecDepth 20000 in
theorem ggX5_solved_X5_isCell : GoodIn wsX5_solved wsX5_isCell := goodIn_r _ [6, 7, 8, 9, 10, 5, 11, 76, 77, 78, 79, 80, 81, 82, 83, 84, 85, 86, 87] (by decide +kernel) (by decide +kernel)
set_option maxRecDepth 20000 in
theorem gX5_solved_X5_isCell : GoodIn wsX5_solved (wsV RX5 105 RX5 yX5_isCell wsX5_isCell) := goodIn_app (goodIn_of _ (by decide +kernel)) ggX5_solved_X5_isCell
set_option maxRecDepth 20000 in
theorem ggX5_solved_X5_solvedAt : GoodIn wsX5_solved wsX5_solvedAt := goodIn_r _ [15, 16, 17, 18, 19, 20, 21, 22, 5, 23, 24, 25, 26, 27, 28, 7, 8, 29, 30, 31, 32, 33, 34, 35, 36, 37, 38, 39, 40, 41, 42, 43, 44, 45, 46, 47, 48, 49, 50, 51, 52, 53, 54, 55, 56, 57, 58, 59, 60, 61, 62, 63, 64, 65, 66, 67, 68, 69, 70, 71, 76, 77, 78, 79, 80, 81, 82, 83, 84, 85, 86, 87] (by decide +kernel) (by decide +kernel)
set_option maxRecDepth 20000 in
theorem gX5_solved_X5_solvedAt : GoodIn wsX5_solved (wsV RX5 137 RX5 yX5_solvedAt wsX5_solvedAt) := goodIn_app (goodIn_of _ (by decide +kernel)) ggX5_solved_X5_solvedAt
set_option maxRecDepth 20000 in
theorem ggX5_solved_X5_no : GoodIn wsX5_solved wsX5_no := goodIn_r _ [75, 1, 76, 77, 78, 79, 80, 81, 82, 83, 84, 85, 86, 87] (by decide +kernel) (by decide +kernel)
set_option maxRecDepth 20000 in
theorem gX5_solved_X5_no : GoodIn wsX5_solved (wsV RX5 102 RX5 yX5_no wsX5_no) := goodIn_app (goodIn_of _ (by decide +kernel)) ggX5_solved_X5_no
theorem dX5_solved_0 : decode cX5_solved 0 = .ok (.aload_n 0, 1) := by decide +kernel
theorem dX5_solved_1 : decode cX5_solved 1 = .ok (.iconst 0, 1) := by decide +kernel
theorem dX5_solved_2 : decode cX5_solved 2 = .ok (.putfield 47, 3) := by decide +kernel
theorem dX5_solved_5 : decode cX5_solved 5 = .ok (.aload_n 0, 1) := by decide +kernel
theorem dX5_solved_6 : decode cX5_solved 6 = .ok (.iload_n 1, 1) := by decide +kernel
theorem dX5_solved_7 : decode cX5_solved 7 = .ok (.invokevirtual 105, 3) := by decide +kernel
theorem dX5_solved_10 : decode cX5_solved 10 = .ok (.ifCond .eq 11, 3) := by decide +kernel
theorem dX5_solved_13 : decode cX5_solved 13 = .ok (.aload_n 0, 1) := by decide +kernel
theorem dX5_solved_14 : decode cX5_solved 14 = .ok (.iload_n 1, 1) := by decide +kernel
theorem dX5_solved_15 : decode cX5_solved 15 = .ok (.invokevirtual 137, 3) := by decide +kernel
theorem dX5_solved_18 : decode cX5_solved 18 = .ok (.goto 8, 3) := by decide +kernel
theorem dX5_solved_21 : decode cX5_solved 21 = .ok (.aload_n 0, 1) := by decide +kernel
theorem dX5_solved_22 : decode cX5_solved 22 = .ok (.iconst 1, 1) := by decide +kernel
theorem dX5_solved_23 : decode cX5_solved 23 = .ok (.invokevirtual 102, 3) := by decide +kernel
theorem dX5_solved_26 : decode cX5_solved 26 = .ok (.ireturn, 1) := by decide +kernel
set_option maxRecDepth 20000 in
theorem ggX5_next_X5_canOf : GoodIn wsX5_next wsX5_canOf := goodIn_r _ [9, 4, 10, 11, 12, 8, 13, 14, 15, 16, 17, 18, 19, 20, 21, 22, 23, 24, 25, 26, 27, 28, 29, 30, 31, 2, 3, 32, 33, 34, 35, 36, 37, 38, 39, 40, 48, 49, 50, 51, 52, 53, 54, 55, 56, 57, 58, 59] (by decide +kernel) (by decide +kernel)
set_option maxRecDepth 20000 in
theorem gX5_next_X5_canOf : GoodIn wsX5_next (wsV RX5 108 RX5 yX5_canOf wsX5_canOf) := goodIn_app (goodIn_of _ (by decide +kernel)) ggX5_next_X5_canOf
set_option maxRecDepth 20000 in
theorem ggX5_next_J6_bitCount_0f7a4 : GoodIn wsX5_next wsJ6_bitCount_0f7a4 := goodIn_r _ [44, 45, 46, 47] (by decide +kernel) (by decide +kernel)
set_option maxRecDepth 20000 in
theorem gX5_next_J6_bitCount_0f7a4 : GoodIn wsX5_next (va_wsS RX5 35 yJ6_bitCount_0f7a4 wsJ6_bitCount_0f7a4) := goodIn_app (goodIn_of _ (by decide +kernel)) ggX5_next_J6_bitCount_0f7a4
theorem dX5_next_0 : decode cX5_next 0 = .ok (.aload_n 0, 1) := by decide +kernel
theorem dX5_next_1 : decode cX5_next 1 = .ok (.iconst 0, 1) := by decide +kernel
theorem dX5_next_2 : decode cX5_next 2 = .ok (.putfield 47, 3) := by decide +kernel
theorem dX5_next_5 : decode cX5_next 5 = .ok (.iconst (-1), 1) := by decide +kernel
theorem dX5_next_6 : decode cX5_next 6 = .ok (.istore_n 1, 1) := by decide +kernel
theorem dX5_next_7 : decode cX5_next 7 = .ok (.iconst 0, 1) := by decide +kernel
theorem dX5_next_8 : decode cX5_next 8 = .ok (.istore_n 2, 1) := by decide +kernel
theorem dX5_next_9 : decode cX5_next 9 = .ok (.iconst 0, 1) := by decide +kernel
theorem dX5_next_10 : decode cX5_next 10 = .ok (.istore_n 3, 1) := by decide +kernel
theorem dX5_next_11 : decode cX5_next 11 = .ok (.iload_n 3, 1) := by decide +kernel
theorem dX5_next_12 : decode cX5_next 12 = .ok (.aload_n 0, 1) := by decide +kernel
theorem dX5_next_13 : decode cX5_next 13 = .ok (.getfield 7, 3) := by decide +kernel
theorem dX5_next_16 : decode cX5_next 16 = .ok (.aload_n 0, 1) := by decide +kernel
theorem dX5_next_17 : decode cX5_next 17 = .ok (.getfield 13, 3) := by decide +kernel
theorem dX5_next_20 : decode cX5_next 20 = .ok (.imul, 1) := by decide +kernel
theorem dX5_next_21 : decode cX5_next 21 = .ok (.if_icmp .ge 47, 3) := by decide +kernel
theorem dX5_next_24 : decode cX5_next 24 = .ok (.aload_n 0, 1) := by decide +kernel
theorem dX5_next_25 : decode cX5_next 25 = .ok (.iload_n 3, 1) := by decide +kernel
theorem dX5_next_26 : decode cX5_next 26 = .ok (.invokevirtual 108, 3) := by decide +kernel
theorem dX5_next_29 : decode cX5_next 29 = .ok (.invokestatic 35, 3) := by decide +kernel
theorem dX5_next_32 : decode cX5_next 32 = .ok (.istore 4, 2) := by decide +kernel
theorem dX5_next_34 : decode cX5_next 34 = .ok (.aload_n 0, 1) := by decide +kernel
theorem dX5_next_35 : decode cX5_next 35 = .ok (.getfield 16, 3) := by decide +kernel
theorem dX5_next_38 : decode cX5_next 38 = .ok (.iload_n 3, 1) := by decide +kernel
theorem dX5_next_39 : decode cX5_next 39 = .ok (.iaload, 1) := by decide +kernel
theorem dX5_next_40 : decode cX5_next 40 = .ok (.ifCond .ne 22, 3) := by decide +kernel
theorem dX5_next_43 : decode cX5_next 43 = .ok (.iload_n 1, 1) := by decide +kernel
theorem dX5_next_44 : decode cX5_next 44 = .ok (.iconst (-1), 1) := by decide +kernel
theorem dX5_next_45 : decode cX5_next 45 = .ok (.if_icmp .eq 12, 3) := by decide +kernel
theorem dX5_next_48 : decode cX5_next 48 = .ok (.iload 4, 2) := by decide +kernel
theorem dX5_next_50 : decode cX5_next 50 = .ok (.iload_n 2, 1) := by decide +kernel
theorem dX5_next_51 : decode cX5_next 51 = .ok (.if_icmp .lt 6, 3) := by decide +kernel
theorem dX5_next_54 : decode cX5_next 54 = .ok (.goto 8, 3) := by decide +kernel
theorem dX5_next_57 : decode cX5_next 57 = .ok (.iload_n 3, 1) := by decide +kernel
theorem dX5_next_58 : decode cX5_next 58 = .ok (.istore_n 1, 1) := by decide +kernel
theorem dX5_next_59 : decode cX5_next 59 = .ok (.iload 4, 2) := by decide +kernel
theorem dX5_next_61 : decode cX5_next 61 = .ok (.istore_n 2, 1) := by decide +kernel
theorem dX5_next_62 : decode cX5_next 62 = .ok (.iinc 3 1, 3) := by decide +kernel
theorem dX5_next_65 : decode cX5_next 65 = .ok (.goto (-54), 3) := by decide +kernel
theorem dX5_next_68 : decode cX5_next 68 = .ok (.iload_n 1, 1) := by decide +kernel
theorem dX5_next_69 : decode cX5_next 69 = .ok (.ireturn, 1) := by decide +kernel
set_option maxRecDepth 20000 in
theorem ggX5_would_X5_isCell : GoodIn wsX5_would wsX5_isCell := goodIn_r _ [7, 8, 9, 10, 11, 6, 12, 76, 77, 78, 79, 80, 81, 82, 83, 84, 85, 86, 87] (by decide +kernel) (by decide +kernel)
set_option maxRecDepth 20000 in
theorem gX5_would_X5_isCell : GoodIn wsX5_would (wsV RX5 105 RX5 yX5_isCell wsX5_isCell) := goodIn_app (goodIn_of _ (by decide +kernel)) ggX5_would_X5_isCell
set_option maxRecDepth 20000 in
theorem ggX5_would_X5_no : GoodIn wsX5_would wsX5_no := goodIn_r _ [16, 1, 76, 77, 78, 79, 80, 81, 82, 83, 84, 85, 86, 87] (by decide +kernel) (by decide +kernel)
set_option maxRecDepth 20000 in
theorem gX5_would_X5_no : GoodIn wsX5_would (wsV RX5 102 RX5 yX5_no wsX5_no) := goodIn_app (goodIn_of _ (by decide +kernel)) ggX5_would_X5_no
set_option maxRecDepth 20000 in
theorem ggX5_would_X5_isIn : GoodIn wsX5_would wsX5_isIn := goodIn_r _ [12] (by decide +kernel) (by decide +kernel)
set_option maxRecDepth 20000 in
theorem gX5_would_X5_isIn : GoodIn wsX5_would (va_wsS RX5 50 yX5_isIn wsX5_isIn) := goodIn_app (goodIn_of _ (by decide +kernel)) ggX5_would_X5_isIn
set_option maxRecDepth 20000 in
theorem ggX5_would_X5_look : GoodIn wsX5_would wsX5_look := goodIn_r _ [20, 21, 22, 23, 24, 25, 26, 27, 6, 28, 8, 9, 2, 29, 30, 31, 32, 33, 34, 35, 36, 37, 38, 39, 40, 41, 42, 43, 44, 45, 46, 47, 48, 49, 50, 51, 52, 53, 54, 55, 56, 57, 58, 59, 60, 61, 62, 63, 64, 65, 66, 67, 68, 69, 70, 71, 76, 77, 78, 79, 80, 81, 82, 83, 84, 85, 86, 87] (by decide +kernel) (by decide +kernel)
set_option maxRecDepth 20000 in
theorem gX5_would_X5_look : GoodIn wsX5_would (wsV RX5 131 RX5 yX5_look wsX5_look) := goodIn_app (goodIn_of _ (by decide +kernel)) ggX5_would_X5_look
set_option maxRecDepth 20000 in
theorem ggX5_would_X5_told : GoodIn wsX5_would wsX5_told := goodIn_r _ [75, 23, 22, 76, 77, 78, 79, 80, 81, 82, 83, 84, 85, 86, 87] (by decide +kernel) (by decide +kernel)
set_option maxRecDepth 20000 in
theorem gX5_would_X5_told : GoodIn wsX5_would (wsV RX5 134 RX5 yX5_told wsX5_told) := goodIn_app (goodIn_of _ (by decide +kernel)) ggX5_would_X5_told
theorem dX5_would_0 : decode cX5_would 0 = .ok (.aload_n 0, 1) := by decide +kernel
theorem dX5_would_1 : decode cX5_would 1 = .ok (.iconst 0, 1) := by decide +kernel
theorem dX5_would_2 : decode cX5_would 2 = .ok (.putfield 47, 3) := by decide +kernel
theorem dX5_would_5 : decode cX5_would 5 = .ok (.aload_n 0, 1) := by decide +kernel
theorem dX5_would_6 : decode cX5_would 6 = .ok (.iload_n 1, 1) := by decide +kernel
theorem dX5_would_7 : decode cX5_would 7 = .ok (.invokevirtual 105, 3) := by decide +kernel
theorem dX5_would_10 : decode cX5_would 10 = .ok (.ifCond .ne 9, 3) := by decide +kernel
theorem dX5_would_13 : decode cX5_would 13 = .ok (.aload_n 0, 1) := by decide +kernel
theorem dX5_would_14 : decode cX5_would 14 = .ok (.iconst 1, 1) := by decide +kernel
theorem dX5_would_15 : decode cX5_would 15 = .ok (.invokevirtual 102, 3) := by decide +kernel
theorem dX5_would_18 : decode cX5_would 18 = .ok (.ireturn, 1) := by decide +kernel
theorem dX5_would_19 : decode cX5_would 19 = .ok (.iload_n 2, 1) := by decide +kernel
theorem dX5_would_20 : decode cX5_would 20 = .ok (.iconst 1, 1) := by decide +kernel
theorem dX5_would_21 : decode cX5_would 21 = .ok (.bipush 9, 2) := by decide +kernel
theorem dX5_would_23 : decode cX5_would 23 = .ok (.invokestatic 50, 3) := by decide +kernel
theorem dX5_would_26 : decode cX5_would 26 = .ok (.ifCond .ne 9, 3) := by decide +kernel
theorem dX5_would_29 : decode cX5_would 29 = .ok (.aload_n 0, 1) := by decide +kernel
theorem dX5_would_30 : decode cX5_would 30 = .ok (.iconst 2, 1) := by decide +kernel
theorem dX5_would_31 : decode cX5_would 31 = .ok (.invokevirtual 102, 3) := by decide +kernel
theorem dX5_would_34 : decode cX5_would 34 = .ok (.ireturn, 1) := by decide +kernel
theorem dX5_would_35 : decode cX5_would 35 = .ok (.aload_n 0, 1) := by decide +kernel
theorem dX5_would_36 : decode cX5_would 36 = .ok (.getfield 16, 3) := by decide +kernel
theorem dX5_would_39 : decode cX5_would 39 = .ok (.iload_n 1, 1) := by decide +kernel
theorem dX5_would_40 : decode cX5_would 40 = .ok (.iaload, 1) := by decide +kernel
theorem dX5_would_41 : decode cX5_would 41 = .ok (.iconst (-1), 1) := by decide +kernel
theorem dX5_would_42 : decode cX5_would 42 = .ok (.if_icmp .ne 9, 3) := by decide +kernel
theorem dX5_would_45 : decode cX5_would 45 = .ok (.aload_n 0, 1) := by decide +kernel
theorem dX5_would_46 : decode cX5_would 46 = .ok (.iconst 3, 1) := by decide +kernel
theorem dX5_would_47 : decode cX5_would 47 = .ok (.invokevirtual 102, 3) := by decide +kernel
theorem dX5_would_50 : decode cX5_would 50 = .ok (.ireturn, 1) := by decide +kernel
theorem dX5_would_51 : decode cX5_would 51 = .ok (.aload_n 0, 1) := by decide +kernel
theorem dX5_would_52 : decode cX5_would 52 = .ok (.getfield 16, 3) := by decide +kernel
theorem dX5_would_55 : decode cX5_would 55 = .ok (.iload_n 1, 1) := by decide +kernel
theorem dX5_would_56 : decode cX5_would 56 = .ok (.iaload, 1) := by decide +kernel
theorem dX5_would_57 : decode cX5_would 57 = .ok (.istore_n 3, 1) := by decide +kernel
theorem dX5_would_58 : decode cX5_would 58 = .ok (.aload_n 0, 1) := by decide +kernel
theorem dX5_would_59 : decode cX5_would 59 = .ok (.getfield 16, 3) := by decide +kernel
theorem dX5_would_62 : decode cX5_would 62 = .ok (.iload_n 1, 1) := by decide +kernel
theorem dX5_would_63 : decode cX5_would 63 = .ok (.iload_n 2, 1) := by decide +kernel
theorem dX5_would_64 : decode cX5_would 64 = .ok (.iastore, 1) := by decide +kernel
theorem dX5_would_65 : decode cX5_would 65 = .ok (.aload_n 0, 1) := by decide +kernel
theorem dX5_would_66 : decode cX5_would 66 = .ok (.invokevirtual 131, 3) := by decide +kernel
theorem dX5_would_69 : decode cX5_would 69 = .ok (.aload_n 0, 1) := by decide +kernel
theorem dX5_would_70 : decode cX5_would 70 = .ok (.getfield 16, 3) := by decide +kernel
theorem dX5_would_73 : decode cX5_would 73 = .ok (.iload_n 1, 1) := by decide +kernel
theorem dX5_would_74 : decode cX5_would 74 = .ok (.iload_n 3, 1) := by decide +kernel
theorem dX5_would_75 : decode cX5_would 75 = .ok (.iastore, 1) := by decide +kernel
theorem dX5_would_76 : decode cX5_would 76 = .ok (.aload_n 0, 1) := by decide +kernel
theorem dX5_would_77 : decode cX5_would 77 = .ok (.invokevirtual 134, 3) := by decide +kernel
theorem dX5_would_80 : decode cX5_would 80 = .ok (.ireturn, 1) := by decide +kernel
set_option maxRecDepth 20000 in
theorem ggX5_mean_X5_canOf : GoodIn wsX5_mean wsX5_canOf := goodIn_r _ [9, 4, 10, 11, 12, 8, 13, 14, 15, 16, 17, 18, 19, 20, 21, 22, 23, 24, 25, 26, 27, 28, 29, 30, 31, 2, 3, 32, 33, 34, 35, 36, 37, 38, 39, 40, 48, 49, 50, 51, 52, 53, 54, 55, 56, 57, 58, 59] (by decide +kernel) (by decide +kernel)
set_option maxRecDepth 20000 in
theorem gX5_mean_X5_canOf : GoodIn wsX5_mean (wsV RX5 108 RX5 yX5_canOf wsX5_canOf) := goodIn_app (goodIn_of _ (by decide +kernel)) ggX5_mean_X5_canOf
set_option maxRecDepth 20000 in
theorem ggX5_mean_J6_bitCount_0f7a4 : GoodIn wsX5_mean wsJ6_bitCount_0f7a4 := goodIn_r _ [44, 45, 46, 47] (by decide +kernel) (by decide +kernel)
set_option maxRecDepth 20000 in
theorem gX5_mean_J6_bitCount_0f7a4 : GoodIn wsX5_mean (va_wsS RX5 35 yJ6_bitCount_0f7a4 wsJ6_bitCount_0f7a4) := goodIn_app (goodIn_of _ (by decide +kernel)) ggX5_mean_J6_bitCount_0f7a4
theorem dX5_mean_0 : decode cX5_mean 0 = .ok (.aload_n 0, 1) := by decide +kernel
theorem dX5_mean_1 : decode cX5_mean 1 = .ok (.iconst 0, 1) := by decide +kernel
theorem dX5_mean_2 : decode cX5_mean 2 = .ok (.putfield 47, 3) := by decide +kernel
theorem dX5_mean_5 : decode cX5_mean 5 = .ok (.iconst 0, 1) := by decide +kernel
theorem dX5_mean_6 : decode cX5_mean 6 = .ok (.istore_n 1, 1) := by decide +kernel
theorem dX5_mean_7 : decode cX5_mean 7 = .ok (.iconst 0, 1) := by decide +kernel
theorem dX5_mean_8 : decode cX5_mean 8 = .ok (.istore_n 2, 1) := by decide +kernel
theorem dX5_mean_9 : decode cX5_mean 9 = .ok (.iconst 0, 1) := by decide +kernel
theorem dX5_mean_10 : decode cX5_mean 10 = .ok (.istore_n 3, 1) := by decide +kernel
theorem dX5_mean_11 : decode cX5_mean 11 = .ok (.iload_n 3, 1) := by decide +kernel
theorem dX5_mean_12 : decode cX5_mean 12 = .ok (.aload_n 0, 1) := by decide +kernel
theorem dX5_mean_13 : decode cX5_mean 13 = .ok (.getfield 7, 3) := by decide +kernel
theorem dX5_mean_16 : decode cX5_mean 16 = .ok (.aload_n 0, 1) := by decide +kernel
theorem dX5_mean_17 : decode cX5_mean 17 = .ok (.getfield 13, 3) := by decide +kernel
theorem dX5_mean_20 : decode cX5_mean 20 = .ok (.imul, 1) := by decide +kernel
theorem dX5_mean_21 : decode cX5_mean 21 = .ok (.if_icmp .ge 37, 3) := by decide +kernel
theorem dX5_mean_24 : decode cX5_mean 24 = .ok (.iload_n 1, 1) := by decide +kernel
theorem dX5_mean_25 : decode cX5_mean 25 = .ok (.aload_n 0, 1) := by decide +kernel
theorem dX5_mean_26 : decode cX5_mean 26 = .ok (.getfield 16, 3) := by decide +kernel
theorem dX5_mean_29 : decode cX5_mean 29 = .ok (.iload_n 3, 1) := by decide +kernel
theorem dX5_mean_30 : decode cX5_mean 30 = .ok (.iaload, 1) := by decide +kernel
theorem dX5_mean_31 : decode cX5_mean 31 = .ok (.ifCond .ne 7, 3) := by decide +kernel
theorem dX5_mean_34 : decode cX5_mean 34 = .ok (.iconst 1, 1) := by decide +kernel
theorem dX5_mean_35 : decode cX5_mean 35 = .ok (.goto 4, 3) := by decide +kernel
theorem dX5_mean_38 : decode cX5_mean 38 = .ok (.iconst 0, 1) := by decide +kernel
theorem dX5_mean_39 : decode cX5_mean 39 = .ok (.iadd, 1) := by decide +kernel
theorem dX5_mean_40 : decode cX5_mean 40 = .ok (.istore_n 1, 1) := by decide +kernel
theorem dX5_mean_41 : decode cX5_mean 41 = .ok (.iload_n 2, 1) := by decide +kernel
theorem dX5_mean_42 : decode cX5_mean 42 = .ok (.aload_n 0, 1) := by decide +kernel
theorem dX5_mean_43 : decode cX5_mean 43 = .ok (.iload_n 3, 1) := by decide +kernel
theorem dX5_mean_44 : decode cX5_mean 44 = .ok (.invokevirtual 108, 3) := by decide +kernel
theorem dX5_mean_47 : decode cX5_mean 47 = .ok (.invokestatic 35, 3) := by decide +kernel
theorem dX5_mean_50 : decode cX5_mean 50 = .ok (.iadd, 1) := by decide +kernel
theorem dX5_mean_51 : decode cX5_mean 51 = .ok (.istore_n 2, 1) := by decide +kernel
theorem dX5_mean_52 : decode cX5_mean 52 = .ok (.iinc 3 1, 3) := by decide +kernel
theorem dX5_mean_55 : decode cX5_mean 55 = .ok (.goto (-44), 3) := by decide +kernel
theorem dX5_mean_58 : decode cX5_mean 58 = .ok (.iload_n 1, 1) := by decide +kernel
theorem dX5_mean_59 : decode cX5_mean 59 = .ok (.ifCond .ne 7, 3) := by decide +kernel
theorem dX5_mean_62 : decode cX5_mean 62 = .ok (.dconst 0, 1) := by decide +kernel
theorem dX5_mean_63 : decode cX5_mean 63 = .ok (.goto 8, 3) := by decide +kernel
theorem dX5_mean_66 : decode cX5_mean 66 = .ok (.iload_n 2, 1) := by decide +kernel
theorem dX5_mean_67 : decode cX5_mean 67 = .ok (.i2d, 1) := by decide +kernel
theorem dX5_mean_68 : decode cX5_mean 68 = .ok (.iload_n 1, 1) := by decide +kernel
theorem dX5_mean_69 : decode cX5_mean 69 = .ok (.i2d, 1) := by decide +kernel
theorem dX5_mean_70 : decode cX5_mean 70 = .ok (.ddiv, 1) := by decide +kernel
theorem dX5_mean_71 : decode cX5_mean 71 = .ok (.dreturn, 1) := by decide +kernel
set_option maxRecDepth 20000 in
theorem ggX5_digest_X5_counted : GoodIn wsX5_digest wsX5_counted := goodIn_r _ [13, 4, 5, 6, 14, 15, 16, 12, 17, 7, 18, 19, 20, 21, 22, 23, 24, 25, 26, 27, 28, 29, 30, 31, 32, 33, 34, 35, 36, 37, 38, 39, 40, 41, 42, 43, 44, 45, 46, 47, 48, 49, 50, 51, 52, 53, 54, 55, 56, 57, 58, 90, 91, 92, 93, 94, 95, 96, 97, 98, 99, 100, 101] (by decide +kernel) (by decide +kernel)
set_option maxRecDepth 20000 in
theorem gX5_digest_X5_counted : GoodIn wsX5_digest (wsV RX5 125 RX5 yX5_counted wsX5_counted) := goodIn_app (goodIn_of _ (by decide +kernel)) ggX5_digest_X5_counted
set_option maxRecDepth 20000 in
theorem ggX5_digest_X5_canOf : GoodIn wsX5_digest wsX5_canOf := goodIn_r _ [47, 6, 48, 49, 50, 12, 51, 23, 24, 25, 26, 7, 18, 19, 20, 21, 22, 27, 28, 29, 30, 31, 32, 33, 34, 4, 5, 35, 36, 37, 38, 39, 40, 41, 42, 43, 90, 91, 92, 93, 94, 95, 96, 97, 98, 99, 100, 101] (by decide +kernel) (by decide +kernel)
set_option maxRecDepth 20000 in
theorem gX5_digest_X5_canOf : GoodIn wsX5_digest (wsV RX5 108 RX5 yX5_canOf wsX5_canOf) := goodIn_app (goodIn_of _ (by decide +kernel)) ggX5_digest_X5_canOf
set_option maxRecDepth 20000 in
theorem ggX5_digest_X5_corridorTold : GoodIn wsX5_digest wsX5_corridorTold := goodIn_r _ [62, 6, 7, 18, 19, 20, 12, 21, 22, 27, 28, 29, 30, 31, 32, 33, 34, 4, 5, 23, 24, 25, 26, 35, 36, 37, 38, 39, 40, 41, 42, 43, 90, 91, 92, 93, 94, 95, 96, 97, 98, 99, 100, 101] (by decide +kernel) (by decide +kernel)
set_option maxRecDepth 20000 in
theorem gX5_digest_X5_corridorTold : GoodIn wsX5_digest (wsV RX5 118 RX5 yX5_corridorTold wsX5_corridorTold) := goodIn_app (goodIn_of _ (by decide +kernel)) ggX5_digest_X5_corridorTold
set_option maxRecDepth 20000 in
theorem ggX5_digest_X5_look : GoodIn wsX5_digest wsX5_look := goodIn_r _ [66, 8, 67, 68, 69, 70, 71, 72, 12, 73, 4, 5, 6, 23, 24, 25, 26, 7, 18, 19, 20, 21, 22, 27, 28, 29, 30, 31, 32, 33, 34, 35, 36, 37, 38, 39, 40, 41, 42, 43, 74, 75, 76, 77, 78, 79, 80, 81, 82, 83, 84, 85, 48, 49, 50, 51, 90, 91, 92, 93, 94, 95, 96, 97, 98, 99, 100, 101] (by decide +kernel) (by decide +kernel)
set_option maxRecDepth 20000 in
theorem gX5_digest_X5_look : GoodIn wsX5_digest (wsV RX5 131 RX5 yX5_look wsX5_look) := goodIn_app (goodIn_of _ (by decide +kernel)) ggX5_digest_X5_look
set_option maxRecDepth 20000 in
theorem ggX5_digest_X5_told : GoodIn wsX5_digest wsX5_told := goodIn_r _ [89, 68, 67, 90, 91, 92, 93, 94, 95, 96, 97, 98, 99, 100, 101] (by decide +kernel) (by decide +kernel)
set_option maxRecDepth 20000 in
theorem gX5_digest_X5_told : GoodIn wsX5_digest (wsV RX5 134 RX5 yX5_told wsX5_told) := goodIn_app (goodIn_of _ (by decide +kernel)) ggX5_digest_X5_told
theorem dX5_digest_0 : decode cX5_digest 0 = .ok (.aload_n 0, 1) := by decide +kernel
theorem dX5_digest_1 : decode cX5_digest 1 = .ok (.iconst 0, 1) := by decide +kernel
theorem dX5_digest_2 : decode cX5_digest 2 = .ok (.putfield 47, 3) := by decide +kernel
theorem dX5_digest_5 : decode cX5_digest 5 = .ok (.ldc2_w 140, 3) := by decide +kernel
theorem dX5_digest_8 : decode cX5_digest 8 = .ok (.lstore_n 1, 1) := by decide +kernel
theorem dX5_digest_9 : decode cX5_digest 9 = .ok (.iconst 0, 1) := by decide +kernel
theorem dX5_digest_10 : decode cX5_digest 10 = .ok (.istore_n 3, 1) := by decide +kernel
theorem dX5_digest_11 : decode cX5_digest 11 = .ok (.iload_n 3, 1) := by decide +kernel
theorem dX5_digest_12 : decode cX5_digest 12 = .ok (.bipush 8, 2) := by decide +kernel
theorem dX5_digest_14 : decode cX5_digest 14 = .ok (.if_icmp .gt 22, 3) := by decide +kernel
theorem dX5_digest_17 : decode cX5_digest 17 = .ok (.lload_n 1, 1) := by decide +kernel
theorem dX5_digest_18 : decode cX5_digest 18 = .ok (.ldc2_w 142, 3) := by decide +kernel
theorem dX5_digest_21 : decode cX5_digest 21 = .ok (.lmul, 1) := by decide +kernel
theorem dX5_digest_22 : decode cX5_digest 22 = .ok (.aload_n 0, 1) := by decide +kernel
theorem dX5_digest_23 : decode cX5_digest 23 = .ok (.iload_n 3, 1) := by decide +kernel
theorem dX5_digest_24 : decode cX5_digest 24 = .ok (.invokevirtual 125, 3) := by decide +kernel
theorem dX5_digest_27 : decode cX5_digest 27 = .ok (.i2l, 1) := by decide +kernel
theorem dX5_digest_28 : decode cX5_digest 28 = .ok (.ladd, 1) := by decide +kernel
theorem dX5_digest_29 : decode cX5_digest 29 = .ok (.lstore_n 1, 1) := by decide +kernel
theorem dX5_digest_30 : decode cX5_digest 30 = .ok (.iinc 3 1, 3) := by decide +kernel
theorem dX5_digest_33 : decode cX5_digest 33 = .ok (.goto (-22), 3) := by decide +kernel
theorem dX5_digest_36 : decode cX5_digest 36 = .ok (.iconst 0, 1) := by decide +kernel
theorem dX5_digest_37 : decode cX5_digest 37 = .ok (.istore_n 3, 1) := by decide +kernel
theorem dX5_digest_38 : decode cX5_digest 38 = .ok (.iload_n 3, 1) := by decide +kernel
theorem dX5_digest_39 : decode cX5_digest 39 = .ok (.aload_n 0, 1) := by decide +kernel
theorem dX5_digest_40 : decode cX5_digest 40 = .ok (.getfield 7, 3) := by decide +kernel
theorem dX5_digest_43 : decode cX5_digest 43 = .ok (.aload_n 0, 1) := by decide +kernel
theorem dX5_digest_44 : decode cX5_digest 44 = .ok (.getfield 13, 3) := by decide +kernel
theorem dX5_digest_47 : decode cX5_digest 47 = .ok (.imul, 1) := by decide +kernel
theorem dX5_digest_48 : decode cX5_digest 48 = .ok (.if_icmp .ge 102, 3) := by decide +kernel
theorem dX5_digest_51 : decode cX5_digest 51 = .ok (.lload_n 1, 1) := by decide +kernel
theorem dX5_digest_52 : decode cX5_digest 52 = .ok (.ldc2_w 142, 3) := by decide +kernel
theorem dX5_digest_55 : decode cX5_digest 55 = .ok (.lmul, 1) := by decide +kernel
theorem dX5_digest_56 : decode cX5_digest 56 = .ok (.aload_n 0, 1) := by decide +kernel
theorem dX5_digest_57 : decode cX5_digest 57 = .ok (.getfield 16, 3) := by decide +kernel
theorem dX5_digest_60 : decode cX5_digest 60 = .ok (.iload_n 3, 1) := by decide +kernel
theorem dX5_digest_61 : decode cX5_digest 61 = .ok (.iaload, 1) := by decide +kernel
theorem dX5_digest_62 : decode cX5_digest 62 = .ok (.i2l, 1) := by decide +kernel
theorem dX5_digest_63 : decode cX5_digest 63 = .ok (.ladd, 1) := by decide +kernel
theorem dX5_digest_64 : decode cX5_digest 64 = .ok (.ldc2_w 142, 3) := by decide +kernel
theorem dX5_digest_67 : decode cX5_digest 67 = .ok (.lmul, 1) := by decide +kernel
theorem dX5_digest_68 : decode cX5_digest 68 = .ok (.aload_n 0, 1) := by decide +kernel
theorem dX5_digest_69 : decode cX5_digest 69 = .ok (.getfield 20, 3) := by decide +kernel
theorem dX5_digest_72 : decode cX5_digest 72 = .ok (.iload_n 3, 1) := by decide +kernel
theorem dX5_digest_73 : decode cX5_digest 73 = .ok (.iaload, 1) := by decide +kernel
theorem dX5_digest_74 : decode cX5_digest 74 = .ok (.i2l, 1) := by decide +kernel
theorem dX5_digest_75 : decode cX5_digest 75 = .ok (.ladd, 1) := by decide +kernel
theorem dX5_digest_76 : decode cX5_digest 76 = .ok (.lstore_n 1, 1) := by decide +kernel
theorem dX5_digest_77 : decode cX5_digest 77 = .ok (.lload_n 1, 1) := by decide +kernel
theorem dX5_digest_78 : decode cX5_digest 78 = .ok (.ldc2_w 142, 3) := by decide +kernel
theorem dX5_digest_81 : decode cX5_digest 81 = .ok (.lmul, 1) := by decide +kernel
theorem dX5_digest_82 : decode cX5_digest 82 = .ok (.aload_n 0, 1) := by decide +kernel
theorem dX5_digest_83 : decode cX5_digest 83 = .ok (.getfield 20, 3) := by decide +kernel
theorem dX5_digest_86 : decode cX5_digest 86 = .ok (.bipush 36, 2) := by decide +kernel
theorem dX5_digest_88 : decode cX5_digest 88 = .ok (.iload_n 3, 1) := by decide +kernel
theorem dX5_digest_89 : decode cX5_digest 89 = .ok (.iadd, 1) := by decide +kernel
theorem dX5_digest_90 : decode cX5_digest 90 = .ok (.iaload, 1) := by decide +kernel
theorem dX5_digest_91 : decode cX5_digest 91 = .ok (.i2l, 1) := by decide +kernel
theorem dX5_digest_92 : decode cX5_digest 92 = .ok (.ladd, 1) := by decide +kernel
theorem dX5_digest_93 : decode cX5_digest 93 = .ok (.ldc2_w 142, 3) := by decide +kernel
theorem dX5_digest_96 : decode cX5_digest 96 = .ok (.lmul, 1) := by decide +kernel
theorem dX5_digest_97 : decode cX5_digest 97 = .ok (.aload_n 0, 1) := by decide +kernel
theorem dX5_digest_98 : decode cX5_digest 98 = .ok (.iload_n 3, 1) := by decide +kernel
theorem dX5_digest_99 : decode cX5_digest 99 = .ok (.invokevirtual 108, 3) := by decide +kernel
theorem dX5_digest_102 : decode cX5_digest 102 = .ok (.i2l, 1) := by decide +kernel
theorem dX5_digest_103 : decode cX5_digest 103 = .ok (.ladd, 1) := by decide +kernel
theorem dX5_digest_104 : decode cX5_digest 104 = .ok (.lstore_n 1, 1) := by decide +kernel
theorem dX5_digest_105 : decode cX5_digest 105 = .ok (.iconst 0, 1) := by decide +kernel
theorem dX5_digest_106 : decode cX5_digest 106 = .ok (.istore 4, 2) := by decide +kernel
theorem dX5_digest_108 : decode cX5_digest 108 = .ok (.iload 4, 2) := by decide +kernel
theorem dX5_digest_110 : decode cX5_digest 110 = .ok (.bipush 12, 2) := by decide +kernel
theorem dX5_digest_112 : decode cX5_digest 112 = .ok (.if_icmp .ge 32, 3) := by decide +kernel
theorem dX5_digest_115 : decode cX5_digest 115 = .ok (.lload_n 1, 1) := by decide +kernel
theorem dX5_digest_116 : decode cX5_digest 116 = .ok (.ldc2_w 142, 3) := by decide +kernel
theorem dX5_digest_119 : decode cX5_digest 119 = .ok (.lmul, 1) := by decide +kernel
theorem dX5_digest_120 : decode cX5_digest 120 = .ok (.aload_n 0, 1) := by decide +kernel
theorem dX5_digest_121 : decode cX5_digest 121 = .ok (.iload_n 3, 1) := by decide +kernel
theorem dX5_digest_122 : decode cX5_digest 122 = .ok (.iload 4, 2) := by decide +kernel
theorem dX5_digest_124 : decode cX5_digest 124 = .ok (.bipush 6, 2) := by decide +kernel
theorem dX5_digest_126 : decode cX5_digest 126 = .ok (.idiv, 1) := by decide +kernel
theorem dX5_digest_127 : decode cX5_digest 127 = .ok (.iload 4, 2) := by decide +kernel
theorem dX5_digest_129 : decode cX5_digest 129 = .ok (.bipush 6, 2) := by decide +kernel
theorem dX5_digest_131 : decode cX5_digest 131 = .ok (.irem, 1) := by decide +kernel
theorem dX5_digest_132 : decode cX5_digest 132 = .ok (.invokevirtual 118, 3) := by decide +kernel
theorem dX5_digest_135 : decode cX5_digest 135 = .ok (.i2l, 1) := by decide +kernel
theorem dX5_digest_136 : decode cX5_digest 136 = .ok (.ladd, 1) := by decide +kernel
theorem dX5_digest_137 : decode cX5_digest 137 = .ok (.lstore_n 1, 1) := by decide +kernel
theorem dX5_digest_138 : decode cX5_digest 138 = .ok (.iinc 4 1, 3) := by decide +kernel
theorem dX5_digest_141 : decode cX5_digest 141 = .ok (.goto (-33), 3) := by decide +kernel
theorem dX5_digest_144 : decode cX5_digest 144 = .ok (.iinc 3 1, 3) := by decide +kernel
theorem dX5_digest_147 : decode cX5_digest 147 = .ok (.goto (-109), 3) := by decide +kernel
theorem dX5_digest_150 : decode cX5_digest 150 = .ok (.aload_n 0, 1) := by decide +kernel
theorem dX5_digest_151 : decode cX5_digest 151 = .ok (.invokevirtual 131, 3) := by decide +kernel
theorem dX5_digest_154 : decode cX5_digest 154 = .ok (.lload_n 1, 1) := by decide +kernel
theorem dX5_digest_155 : decode cX5_digest 155 = .ok (.ldc2_w 142, 3) := by decide +kernel
theorem dX5_digest_158 : decode cX5_digest 158 = .ok (.lmul, 1) := by decide +kernel
theorem dX5_digest_159 : decode cX5_digest 159 = .ok (.aload_n 0, 1) := by decide +kernel
theorem dX5_digest_160 : decode cX5_digest 160 = .ok (.invokevirtual 134, 3) := by decide +kernel
theorem dX5_digest_163 : decode cX5_digest 163 = .ok (.i2l, 1) := by decide +kernel
theorem dX5_digest_164 : decode cX5_digest 164 = .ok (.ladd, 1) := by decide +kernel
theorem dX5_digest_165 : decode cX5_digest 165 = .ok (.ldc2_w 142, 3) := by decide +kernel
theorem dX5_digest_168 : decode cX5_digest 168 = .ok (.lmul, 1) := by decide +kernel
theorem dX5_digest_169 : decode cX5_digest 169 = .ok (.aload_n 0, 1) := by decide +kernel
theorem dX5_digest_170 : decode cX5_digest 170 = .ok (.getfield 92, 3) := by decide +kernel
theorem dX5_digest_173 : decode cX5_digest 173 = .ok (.i2l, 1) := by decide +kernel
theorem dX5_digest_174 : decode cX5_digest 174 = .ok (.ladd, 1) := by decide +kernel
theorem dX5_digest_175 : decode cX5_digest 175 = .ok (.lreturn, 1) := by decide +kernel
theorem dJ6_numberOfTrailingZeros_0f7a4_0 : decode cJ6_numberOfTrailingZeros_0f7a4 0 = .ok (.iload_n 0, 1) := by decide +kernel
theorem dJ6_numberOfTrailingZeros_0f7a4_1 : decode cJ6_numberOfTrailingZeros_0f7a4 1 = .ok (.iconst (-1), 1) := by decide +kernel
theorem dJ6_numberOfTrailingZeros_0f7a4_2 : decode cJ6_numberOfTrailingZeros_0f7a4 2 = .ok (.ixor, 1) := by decide +kernel
theorem dJ6_numberOfTrailingZeros_0f7a4_3 : decode cJ6_numberOfTrailingZeros_0f7a4 3 = .ok (.iload_n 0, 1) := by decide +kernel
theorem dJ6_numberOfTrailingZeros_0f7a4_4 : decode cJ6_numberOfTrailingZeros_0f7a4 4 = .ok (.iconst 1, 1) := by decide +kernel
theorem dJ6_numberOfTrailingZeros_0f7a4_5 : decode cJ6_numberOfTrailingZeros_0f7a4 5 = .ok (.isub, 1) := by decide +kernel
theorem dJ6_numberOfTrailingZeros_0f7a4_6 : decode cJ6_numberOfTrailingZeros_0f7a4 6 = .ok (.iand, 1) := by decide +kernel
theorem dJ6_numberOfTrailingZeros_0f7a4_7 : decode cJ6_numberOfTrailingZeros_0f7a4 7 = .ok (.istore_n 0, 1) := by decide +kernel
theorem dJ6_numberOfTrailingZeros_0f7a4_8 : decode cJ6_numberOfTrailingZeros_0f7a4 8 = .ok (.iload_n 0, 1) := by decide +kernel
theorem dJ6_numberOfTrailingZeros_0f7a4_9 : decode cJ6_numberOfTrailingZeros_0f7a4 9 = .ok (.ifCond .gt 8, 3) := by decide +kernel
theorem dJ6_numberOfTrailingZeros_0f7a4_12 : decode cJ6_numberOfTrailingZeros_0f7a4 12 = .ok (.iload_n 0, 1) := by decide +kernel
theorem dJ6_numberOfTrailingZeros_0f7a4_13 : decode cJ6_numberOfTrailingZeros_0f7a4 13 = .ok (.bipush 32, 2) := by decide +kernel
theorem dJ6_numberOfTrailingZeros_0f7a4_15 : decode cJ6_numberOfTrailingZeros_0f7a4 15 = .ok (.iand, 1) := by decide +kernel
theorem dJ6_numberOfTrailingZeros_0f7a4_16 : decode cJ6_numberOfTrailingZeros_0f7a4 16 = .ok (.ireturn, 1) := by decide +kernel
theorem dJ6_numberOfTrailingZeros_0f7a4_17 : decode cJ6_numberOfTrailingZeros_0f7a4 17 = .ok (.iconst 1, 1) := by decide +kernel
theorem dJ6_numberOfTrailingZeros_0f7a4_18 : decode cJ6_numberOfTrailingZeros_0f7a4 18 = .ok (.istore_n 1, 1) := by decide +kernel
theorem dJ6_numberOfTrailingZeros_0f7a4_19 : decode cJ6_numberOfTrailingZeros_0f7a4 19 = .ok (.iload_n 0, 1) := by decide +kernel
theorem dJ6_numberOfTrailingZeros_0f7a4_20 : decode cJ6_numberOfTrailingZeros_0f7a4 20 = .ok (.ldc_w 264, 3) := by decide +kernel
theorem dJ6_numberOfTrailingZeros_0f7a4_23 : decode cJ6_numberOfTrailingZeros_0f7a4 23 = .ok (.if_icmp .le 11, 3) := by decide +kernel
theorem dJ6_numberOfTrailingZeros_0f7a4_26 : decode cJ6_numberOfTrailingZeros_0f7a4 26 = .ok (.iinc 1 16, 3) := by decide +kernel
theorem dJ6_numberOfTrailingZeros_0f7a4_29 : decode cJ6_numberOfTrailingZeros_0f7a4 29 = .ok (.iload_n 0, 1) := by decide +kernel
theorem dJ6_numberOfTrailingZeros_0f7a4_30 : decode cJ6_numberOfTrailingZeros_0f7a4 30 = .ok (.bipush 16, 2) := by decide +kernel
theorem dJ6_numberOfTrailingZeros_0f7a4_32 : decode cJ6_numberOfTrailingZeros_0f7a4 32 = .ok (.iushr, 1) := by decide +kernel
theorem dJ6_numberOfTrailingZeros_0f7a4_33 : decode cJ6_numberOfTrailingZeros_0f7a4 33 = .ok (.istore_n 0, 1) := by decide +kernel
theorem dJ6_numberOfTrailingZeros_0f7a4_34 : decode cJ6_numberOfTrailingZeros_0f7a4 34 = .ok (.iload_n 0, 1) := by decide +kernel
theorem dJ6_numberOfTrailingZeros_0f7a4_35 : decode cJ6_numberOfTrailingZeros_0f7a4 35 = .ok (.sipush 256, 3) := by decide +kernel
theorem dJ6_numberOfTrailingZeros_0f7a4_38 : decode cJ6_numberOfTrailingZeros_0f7a4 38 = .ok (.if_icmp .le 11, 3) := by decide +kernel
theorem dJ6_numberOfTrailingZeros_0f7a4_41 : decode cJ6_numberOfTrailingZeros_0f7a4 41 = .ok (.iinc 1 8, 3) := by decide +kernel
theorem dJ6_numberOfTrailingZeros_0f7a4_44 : decode cJ6_numberOfTrailingZeros_0f7a4 44 = .ok (.iload_n 0, 1) := by decide +kernel
theorem dJ6_numberOfTrailingZeros_0f7a4_45 : decode cJ6_numberOfTrailingZeros_0f7a4 45 = .ok (.bipush 8, 2) := by decide +kernel
theorem dJ6_numberOfTrailingZeros_0f7a4_47 : decode cJ6_numberOfTrailingZeros_0f7a4 47 = .ok (.iushr, 1) := by decide +kernel
theorem dJ6_numberOfTrailingZeros_0f7a4_48 : decode cJ6_numberOfTrailingZeros_0f7a4 48 = .ok (.istore_n 0, 1) := by decide +kernel
theorem dJ6_numberOfTrailingZeros_0f7a4_49 : decode cJ6_numberOfTrailingZeros_0f7a4 49 = .ok (.iload_n 0, 1) := by decide +kernel
theorem dJ6_numberOfTrailingZeros_0f7a4_50 : decode cJ6_numberOfTrailingZeros_0f7a4 50 = .ok (.bipush 16, 2) := by decide +kernel
theorem dJ6_numberOfTrailingZeros_0f7a4_52 : decode cJ6_numberOfTrailingZeros_0f7a4 52 = .ok (.if_icmp .le 10, 3) := by decide +kernel
theorem dJ6_numberOfTrailingZeros_0f7a4_55 : decode cJ6_numberOfTrailingZeros_0f7a4 55 = .ok (.iinc 1 4, 3) := by decide +kernel
theorem dJ6_numberOfTrailingZeros_0f7a4_58 : decode cJ6_numberOfTrailingZeros_0f7a4 58 = .ok (.iload_n 0, 1) := by decide +kernel
theorem dJ6_numberOfTrailingZeros_0f7a4_59 : decode cJ6_numberOfTrailingZeros_0f7a4 59 = .ok (.iconst 4, 1) := by decide +kernel
theorem dJ6_numberOfTrailingZeros_0f7a4_60 : decode cJ6_numberOfTrailingZeros_0f7a4 60 = .ok (.iushr, 1) := by decide +kernel
theorem dJ6_numberOfTrailingZeros_0f7a4_61 : decode cJ6_numberOfTrailingZeros_0f7a4 61 = .ok (.istore_n 0, 1) := by decide +kernel
theorem dJ6_numberOfTrailingZeros_0f7a4_62 : decode cJ6_numberOfTrailingZeros_0f7a4 62 = .ok (.iload_n 0, 1) := by decide +kernel
theorem dJ6_numberOfTrailingZeros_0f7a4_63 : decode cJ6_numberOfTrailingZeros_0f7a4 63 = .ok (.iconst 4, 1) := by decide +kernel
theorem dJ6_numberOfTrailingZeros_0f7a4_64 : decode cJ6_numberOfTrailingZeros_0f7a4 64 = .ok (.if_icmp .le 10, 3) := by decide +kernel
theorem dJ6_numberOfTrailingZeros_0f7a4_67 : decode cJ6_numberOfTrailingZeros_0f7a4 67 = .ok (.iinc 1 2, 3) := by decide +kernel
theorem dJ6_numberOfTrailingZeros_0f7a4_70 : decode cJ6_numberOfTrailingZeros_0f7a4 70 = .ok (.iload_n 0, 1) := by decide +kernel
theorem dJ6_numberOfTrailingZeros_0f7a4_71 : decode cJ6_numberOfTrailingZeros_0f7a4 71 = .ok (.iconst 2, 1) := by decide +kernel
theorem dJ6_numberOfTrailingZeros_0f7a4_72 : decode cJ6_numberOfTrailingZeros_0f7a4 72 = .ok (.iushr, 1) := by decide +kernel
theorem dJ6_numberOfTrailingZeros_0f7a4_73 : decode cJ6_numberOfTrailingZeros_0f7a4 73 = .ok (.istore_n 0, 1) := by decide +kernel
theorem dJ6_numberOfTrailingZeros_0f7a4_74 : decode cJ6_numberOfTrailingZeros_0f7a4 74 = .ok (.iload_n 1, 1) := by decide +kernel
theorem dJ6_numberOfTrailingZeros_0f7a4_75 : decode cJ6_numberOfTrailingZeros_0f7a4 75 = .ok (.iload_n 0, 1) := by decide +kernel
theorem dJ6_numberOfTrailingZeros_0f7a4_76 : decode cJ6_numberOfTrailingZeros_0f7a4 76 = .ok (.iconst 1, 1) := by decide +kernel
theorem dJ6_numberOfTrailingZeros_0f7a4_77 : decode cJ6_numberOfTrailingZeros_0f7a4 77 = .ok (.iushr, 1) := by decide +kernel
theorem dJ6_numberOfTrailingZeros_0f7a4_78 : decode cJ6_numberOfTrailingZeros_0f7a4 78 = .ok (.iadd, 1) := by decide +kernel
theorem dJ6_numberOfTrailingZeros_0f7a4_79 : decode cJ6_numberOfTrailingZeros_0f7a4 79 = .ok (.ireturn, 1) := by decide +kernel
theorem dJ6_bitCount_0f7a4_0 : decode cJ6_bitCount_0f7a4 0 = .ok (.iload_n 0, 1) := by decide +kernel
theorem dJ6_bitCount_0f7a4_1 : decode cJ6_bitCount_0f7a4 1 = .ok (.iload_n 0, 1) := by decide +kernel
theorem dJ6_bitCount_0f7a4_2 : decode cJ6_bitCount_0f7a4 2 = .ok (.iconst 1, 1) := by decide +kernel
theorem dJ6_bitCount_0f7a4_3 : decode cJ6_bitCount_0f7a4 3 = .ok (.iushr, 1) := by decide +kernel
theorem dJ6_bitCount_0f7a4_4 : decode cJ6_bitCount_0f7a4 4 = .ok (.ldc_w 265, 3) := by decide +kernel
theorem dJ6_bitCount_0f7a4_7 : decode cJ6_bitCount_0f7a4 7 = .ok (.iand, 1) := by decide +kernel
theorem dJ6_bitCount_0f7a4_8 : decode cJ6_bitCount_0f7a4 8 = .ok (.isub, 1) := by decide +kernel
theorem dJ6_bitCount_0f7a4_9 : decode cJ6_bitCount_0f7a4 9 = .ok (.istore_n 0, 1) := by decide +kernel
theorem dJ6_bitCount_0f7a4_10 : decode cJ6_bitCount_0f7a4 10 = .ok (.iload_n 0, 1) := by decide +kernel
theorem dJ6_bitCount_0f7a4_11 : decode cJ6_bitCount_0f7a4 11 = .ok (.ldc_w 266, 3) := by decide +kernel
theorem dJ6_bitCount_0f7a4_14 : decode cJ6_bitCount_0f7a4 14 = .ok (.iand, 1) := by decide +kernel
theorem dJ6_bitCount_0f7a4_15 : decode cJ6_bitCount_0f7a4 15 = .ok (.iload_n 0, 1) := by decide +kernel
theorem dJ6_bitCount_0f7a4_16 : decode cJ6_bitCount_0f7a4 16 = .ok (.iconst 2, 1) := by decide +kernel
theorem dJ6_bitCount_0f7a4_17 : decode cJ6_bitCount_0f7a4 17 = .ok (.iushr, 1) := by decide +kernel
theorem dJ6_bitCount_0f7a4_18 : decode cJ6_bitCount_0f7a4 18 = .ok (.ldc_w 266, 3) := by decide +kernel
theorem dJ6_bitCount_0f7a4_21 : decode cJ6_bitCount_0f7a4 21 = .ok (.iand, 1) := by decide +kernel
theorem dJ6_bitCount_0f7a4_22 : decode cJ6_bitCount_0f7a4 22 = .ok (.iadd, 1) := by decide +kernel
theorem dJ6_bitCount_0f7a4_23 : decode cJ6_bitCount_0f7a4 23 = .ok (.istore_n 0, 1) := by decide +kernel
theorem dJ6_bitCount_0f7a4_24 : decode cJ6_bitCount_0f7a4 24 = .ok (.iload_n 0, 1) := by decide +kernel
theorem dJ6_bitCount_0f7a4_25 : decode cJ6_bitCount_0f7a4 25 = .ok (.iload_n 0, 1) := by decide +kernel
theorem dJ6_bitCount_0f7a4_26 : decode cJ6_bitCount_0f7a4 26 = .ok (.iconst 4, 1) := by decide +kernel
theorem dJ6_bitCount_0f7a4_27 : decode cJ6_bitCount_0f7a4 27 = .ok (.iushr, 1) := by decide +kernel
theorem dJ6_bitCount_0f7a4_28 : decode cJ6_bitCount_0f7a4 28 = .ok (.iadd, 1) := by decide +kernel
theorem dJ6_bitCount_0f7a4_29 : decode cJ6_bitCount_0f7a4 29 = .ok (.ldc_w 267, 3) := by decide +kernel
theorem dJ6_bitCount_0f7a4_32 : decode cJ6_bitCount_0f7a4 32 = .ok (.iand, 1) := by decide +kernel
theorem dJ6_bitCount_0f7a4_33 : decode cJ6_bitCount_0f7a4 33 = .ok (.istore_n 0, 1) := by decide +kernel
theorem dJ6_bitCount_0f7a4_34 : decode cJ6_bitCount_0f7a4 34 = .ok (.iload_n 0, 1) := by decide +kernel
theorem dJ6_bitCount_0f7a4_35 : decode cJ6_bitCount_0f7a4 35 = .ok (.iload_n 0, 1) := by decide +kernel
theorem dJ6_bitCount_0f7a4_36 : decode cJ6_bitCount_0f7a4 36 = .ok (.bipush 8, 2) := by decide +kernel
theorem dJ6_bitCount_0f7a4_38 : decode cJ6_bitCount_0f7a4 38 = .ok (.iushr, 1) := by decide +kernel
theorem dJ6_bitCount_0f7a4_39 : decode cJ6_bitCount_0f7a4 39 = .ok (.iadd, 1) := by decide +kernel
theorem dJ6_bitCount_0f7a4_40 : decode cJ6_bitCount_0f7a4 40 = .ok (.istore_n 0, 1) := by decide +kernel
theorem dJ6_bitCount_0f7a4_41 : decode cJ6_bitCount_0f7a4 41 = .ok (.iload_n 0, 1) := by decide +kernel
theorem dJ6_bitCount_0f7a4_42 : decode cJ6_bitCount_0f7a4 42 = .ok (.iload_n 0, 1) := by decide +kernel
theorem dJ6_bitCount_0f7a4_43 : decode cJ6_bitCount_0f7a4 43 = .ok (.bipush 16, 2) := by decide +kernel
theorem dJ6_bitCount_0f7a4_45 : decode cJ6_bitCount_0f7a4 45 = .ok (.iushr, 1) := by decide +kernel
theorem dJ6_bitCount_0f7a4_46 : decode cJ6_bitCount_0f7a4 46 = .ok (.iadd, 1) := by decide +kernel
theorem dJ6_bitCount_0f7a4_47 : decode cJ6_bitCount_0f7a4 47 = .ok (.istore_n 0, 1) := by decide +kernel
theorem dJ6_bitCount_0f7a4_48 : decode cJ6_bitCount_0f7a4 48 = .ok (.iload_n 0, 1) := by decide +kernel
theorem dJ6_bitCount_0f7a4_49 : decode cJ6_bitCount_0f7a4 49 = .ok (.bipush 63, 2) := by decide +kernel
theorem dJ6_bitCount_0f7a4_51 : decode cJ6_bitCount_0f7a4 51 = .ok (.iand, 1) := by decide +kernel
theorem dJ6_bitCount_0f7a4_52 : decode cJ6_bitCount_0f7a4 52 = .ok (.ireturn, 1) := by decide +kernel
set_option maxRecDepth 20000 in
theorem ggL_setFloor_X4_setFloor : GoodIn wsL_setFloor wsX4_setFloor := goodIn_ca (goodIn_r _ [6, 7, 8, 9, 10, 11, 12, 13, 14, 15, 16, 17, 18, 19, 20, 21, 22, 23, 24, 25, 26, 27, 5, 28, 29, 30, 31, 32, 33, 34, 35, 36, 37, 38, 39, 40, 41, 42, 43, 44, 45, 46, 47, 48, 49, 50, 51, 52, 53, 54, 55, 56, 57, 58, 59, 60, 61, 62, 63, 64, 65, 66, 67, 68, 69, 70, 71, 72, 73, 74, 75] (by decide +kernel) (by decide +kernel)) (goodIn_sub (fun _ h => List.mem_cons_of_mem _ (List.mem_append_right _ h)) (by decide +kernel))
set_option maxRecDepth 20000 in
theorem gL_setFloor_X4_setFloor : GoodIn wsL_setFloor (wsV RL 7 RX4 yX4_setFloor wsX4_setFloor) := goodIn_app (goodIn_of _ (by decide +kernel)) ggL_setFloor_X4_setFloor
