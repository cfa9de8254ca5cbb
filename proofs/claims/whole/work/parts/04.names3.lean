theorem dX2_lay_49 : decode cX2_lay 49 = .ok (.bastore, 1) := by decide +kernel
theorem dX2_lay_50 : decode cX2_lay 50 = .ok (.aload_n 0, 1) := by decide +kernel
theorem dX2_lay_51 : decode cX2_lay 51 = .ok (.dup, 1) := by decide +kernel
theorem dX2_lay_52 : decode cX2_lay 52 = .ok (.getfield 52, 3) := by decide +kernel
theorem dX2_lay_55 : decode cX2_lay 55 = .ok (.iconst 1, 1) := by decide +kernel
theorem dX2_lay_56 : decode cX2_lay 56 = .ok (.iadd, 1) := by decide +kernel
theorem dX2_lay_57 : decode cX2_lay 57 = .ok (.putfield 52, 3) := by decide +kernel
theorem dX2_lay_60 : decode cX2_lay 60 = .ok (.aload_n 0, 1) := by decide +kernel
theorem dX2_lay_61 : decode cX2_lay 61 = .ok (.dup, 1) := by decide +kernel
theorem dX2_lay_62 : decode cX2_lay 62 = .ok (.getfield 49, 3) := by decide +kernel
theorem dX2_lay_65 : decode cX2_lay 65 = .ok (.iconst 1, 1) := by decide +kernel
theorem dX2_lay_66 : decode cX2_lay 66 = .ok (.iadd, 1) := by decide +kernel
theorem dX2_lay_67 : decode cX2_lay 67 = .ok (.putfield 49, 3) := by decide +kernel
theorem dX2_lay_70 : decode cX2_lay 70 = .ok (.aload_n 0, 1) := by decide +kernel
theorem dX2_lay_71 : decode cX2_lay 71 = .ok (.getfield 49, 3) := by decide +kernel
theorem dX2_lay_74 : decode cX2_lay 74 = .ok (.iconst 1, 1) := by decide +kernel
theorem dX2_lay_75 : decode cX2_lay 75 = .ok (.isub, 1) := by decide +kernel
theorem dX2_lay_76 : decode cX2_lay 76 = .ok (.ireturn, 1) := by decide +kernel
set_option maxRecDepth 20000 in
theorem ggX2_isSpan_X2_isIn : GoodIn wsX2_isSpan wsX2_isIn := goodIn_r _ [4] (by decide +kernel) (by decide +kernel)
set_option maxRecDepth 20000 in
theorem gX2_isSpan_X2_isIn : GoodIn wsX2_isSpan (va_wsS RX2 45 yX2_isIn wsX2_isIn) := goodIn_app (goodIn_of _ (by decide +kernel)) ggX2_isSpan_X2_isIn
theorem dX2_isSpan_0 : decode cX2_isSpan 0 = .ok (.iload_n 0, 1) := by decide +kernel
theorem dX2_isSpan_1 : decode cX2_isSpan 1 = .ok (.iconst 0, 1) := by decide +kernel
theorem dX2_isSpan_2 : decode cX2_isSpan 2 = .ok (.sipush 1000, 3) := by decide +kernel
theorem dX2_isSpan_5 : decode cX2_isSpan 5 = .ok (.invokestatic 45, 3) := by decide +kernel
theorem dX2_isSpan_8 : decode cX2_isSpan 8 = .ok (.ifCond .eq 27, 3) := by decide +kernel
theorem dX2_isSpan_11 : decode cX2_isSpan 11 = .ok (.iload_n 1, 1) := by decide +kernel
theorem dX2_isSpan_12 : decode cX2_isSpan 12 = .ok (.iconst 1, 1) := by decide +kernel
theorem dX2_isSpan_13 : decode cX2_isSpan 13 = .ok (.sipush 1000, 3) := by decide +kernel
theorem dX2_isSpan_16 : decode cX2_isSpan 16 = .ok (.invokestatic 45, 3) := by decide +kernel
theorem dX2_isSpan_19 : decode cX2_isSpan 19 = .ok (.ifCond .eq 16, 3) := by decide +kernel
theorem dX2_isSpan_22 : decode cX2_isSpan 22 = .ok (.iload_n 0, 1) := by decide +kernel
theorem dX2_isSpan_23 : decode cX2_isSpan 23 = .ok (.iload_n 1, 1) := by decide +kernel
theorem dX2_isSpan_24 : decode cX2_isSpan 24 = .ok (.iadd, 1) := by decide +kernel
theorem dX2_isSpan_25 : decode cX2_isSpan 25 = .ok (.sipush 1000, 3) := by decide +kernel
theorem dX2_isSpan_28 : decode cX2_isSpan 28 = .ok (.if_icmp .gt 7, 3) := by decide +kernel
theorem dX2_isSpan_31 : decode cX2_isSpan 31 = .ok (.iconst 1, 1) := by decide +kernel
theorem dX2_isSpan_32 : decode cX2_isSpan 32 = .ok (.goto 4, 3) := by decide +kernel
theorem dX2_isSpan_35 : decode cX2_isSpan 35 = .ok (.iconst 0, 1) := by decide +kernel
theorem dX2_isSpan_36 : decode cX2_isSpan 36 = .ok (.ireturn, 1) := by decide +kernel
theorem dX2_side_0 : decode cX2_side 0 = .ok (.aload_n 0, 1) := by decide +kernel
theorem dX2_side_1 : decode cX2_side 1 = .ok (.getfield 26, 3) := by decide +kernel
theorem dX2_side_4 : decode cX2_side 4 = .ok (.iconst 3, 1) := by decide +kernel
theorem dX2_side_5 : decode cX2_side 5 = .ok (.aload_n 0, 1) := by decide +kernel
theorem dX2_side_6 : decode cX2_side 6 = .ok (.getfield 49, 3) := by decide +kernel
theorem dX2_side_9 : decode cX2_side 9 = .ok (.imul, 1) := by decide +kernel
theorem dX2_side_10 : decode cX2_side 10 = .ok (.iload_n 1, 1) := by decide +kernel
theorem dX2_side_11 : decode cX2_side 11 = .ok (.iadd, 1) := by decide +kernel
theorem dX2_side_12 : decode cX2_side 12 = .ok (.iload_n 2, 1) := by decide +kernel
theorem dX2_side_13 : decode cX2_side 13 = .ok (.iastore, 1) := by decide +kernel
theorem dX2_side_14 : decode cX2_side 14 = .ok (.aload_n 0, 1) := by decide +kernel
theorem dX2_side_15 : decode cX2_side 15 = .ok (.getfield 29, 3) := by decide +kernel
theorem dX2_side_18 : decode cX2_side 18 = .ok (.iconst 3, 1) := by decide +kernel
theorem dX2_side_19 : decode cX2_side 19 = .ok (.aload_n 0, 1) := by decide +kernel
theorem dX2_side_20 : decode cX2_side 20 = .ok (.getfield 49, 3) := by decide +kernel
theorem dX2_side_23 : decode cX2_side 23 = .ok (.imul, 1) := by decide +kernel
theorem dX2_side_24 : decode cX2_side 24 = .ok (.iload_n 1, 1) := by decide +kernel
theorem dX2_side_25 : decode cX2_side 25 = .ok (.iadd, 1) := by decide +kernel
theorem dX2_side_26 : decode cX2_side 26 = .ok (.iload_n 3, 1) := by decide +kernel
theorem dX2_side_27 : decode cX2_side 27 = .ok (.iastore, 1) := by decide +kernel
theorem dX2_side_28 : decode cX2_side 28 = .ok (.return_, 1) := by decide +kernel
set_option maxRecDepth 20000 in
theorem ggX2_box_X2_isKind : GoodIn wsX2_box wsX2_isKind := goodIn_r _ [6, 7, 8, 5, 9] (by decide +kernel) (by decide +kernel)
set_option maxRecDepth 20000 in
theorem gX2_box_X2_isKind : GoodIn wsX2_box (va_wsS RX2 55 yX2_isKind wsX2_isKind) := goodIn_app (goodIn_of _ (by decide +kernel)) ggX2_box_X2_isKind
set_option maxRecDepth 20000 in
theorem ggX2_box_X2_isSpan : GoodIn wsX2_box wsX2_isSpan := goodIn_r _ [12, 7, 8, 5, 9] (by decide +kernel) (by decide +kernel)
set_option maxRecDepth 20000 in
theorem gX2_box_X2_isSpan : GoodIn wsX2_box (va_wsS RX2 59 yX2_isSpan wsX2_isSpan) := goodIn_app (goodIn_of _ (by decide +kernel)) ggX2_box_X2_isSpan
set_option maxRecDepth 20000 in
theorem ggX2_box_X2_side : GoodIn wsX2_box wsX2_side := goodIn_r _ [16, 17, 1, 18, 29, 30, 31, 32, 33, 34, 35, 36, 37, 38, 39, 40, 41, 42, 43] (by decide +kernel) (by decide +kernel)
set_option maxRecDepth 20000 in
theorem gX2_box_X2_side : GoodIn wsX2_box (wsV RX2 63 RX2 yX2_side wsX2_side) := goodIn_app (goodIn_of _ (by decide +kernel)) ggX2_box_X2_side
set_option maxRecDepth 20000 in
theorem ggX2_box_X2_lay : GoodIn wsX2_box wsX2_lay := goodIn_r _ [22, 23, 1, 24, 25, 26, 27, 28, 29, 30, 31, 32, 33, 34, 35, 36, 37, 38, 39, 40, 41, 42, 43] (by decide +kernel) (by decide +kernel)
set_option maxRecDepth 20000 in
theorem gX2_box_X2_lay : GoodIn wsX2_box (wsV RX2 67 RX2 yX2_lay wsX2_lay) := goodIn_app (goodIn_of _ (by decide +kernel)) ggX2_box_X2_lay
theorem dX2_box_0 : decode cX2_box 0 = .ok (.aload_n 0, 1) := by decide +kernel
theorem dX2_box_1 : decode cX2_box 1 = .ok (.iload_n 1, 1) := by decide +kernel
theorem dX2_box_2 : decode cX2_box 2 = .ok (.invokestatic 55, 3) := by decide +kernel
theorem dX2_box_5 : decode cX2_box 5 = .ok (.ifCond .eq 31, 3) := by decide +kernel
theorem dX2_box_8 : decode cX2_box 8 = .ok (.iload_n 2, 1) := by decide +kernel
theorem dX2_box_9 : decode cX2_box 9 = .ok (.iload 5, 2) := by decide +kernel
theorem dX2_box_11 : decode cX2_box 11 = .ok (.invokestatic 59, 3) := by decide +kernel
theorem dX2_box_14 : decode cX2_box 14 = .ok (.ifCond .eq 22, 3) := by decide +kernel
theorem dX2_box_17 : decode cX2_box 17 = .ok (.iload_n 3, 1) := by decide +kernel
theorem dX2_box_18 : decode cX2_box 18 = .ok (.iload 6, 2) := by decide +kernel
theorem dX2_box_20 : decode cX2_box 20 = .ok (.invokestatic 59, 3) := by decide +kernel
theorem dX2_box_23 : decode cX2_box 23 = .ok (.ifCond .eq 13, 3) := by decide +kernel
theorem dX2_box_26 : decode cX2_box 26 = .ok (.iload 4, 2) := by decide +kernel
theorem dX2_box_28 : decode cX2_box 28 = .ok (.iload 7, 2) := by decide +kernel
theorem dX2_box_30 : decode cX2_box 30 = .ok (.invokestatic 59, 3) := by decide +kernel
theorem dX2_box_33 : decode cX2_box 33 = .ok (.ifCond .ne 7, 3) := by decide +kernel
theorem dX2_box_36 : decode cX2_box 36 = .ok (.iconst 1, 1) := by decide +kernel
theorem dX2_box_37 : decode cX2_box 37 = .ok (.goto 17, 3) := by decide +kernel
theorem dX2_box_40 : decode cX2_box 40 = .ok (.aload_n 0, 1) := by decide +kernel
theorem dX2_box_41 : decode cX2_box 41 = .ok (.getfield 49, 3) := by decide +kernel
theorem dX2_box_44 : decode cX2_box 44 = .ok (.bipush 60, 2) := by decide +kernel
theorem dX2_box_46 : decode cX2_box 46 = .ok (.if_icmp .ne 7, 3) := by decide +kernel
theorem dX2_box_49 : decode cX2_box 49 = .ok (.iconst 2, 1) := by decide +kernel
theorem dX2_box_50 : decode cX2_box 50 = .ok (.goto 4, 3) := by decide +kernel
theorem dX2_box_53 : decode cX2_box 53 = .ok (.iconst 0, 1) := by decide +kernel
theorem dX2_box_54 : decode cX2_box 54 = .ok (.putfield 42, 3) := by decide +kernel
theorem dX2_box_57 : decode cX2_box 57 = .ok (.aload_n 0, 1) := by decide +kernel
theorem dX2_box_58 : decode cX2_box 58 = .ok (.getfield 42, 3) := by decide +kernel
theorem dX2_box_61 : decode cX2_box 61 = .ok (.ifCond .le 5, 3) := by decide +kernel
theorem dX2_box_64 : decode cX2_box 64 = .ok (.iconst 0, 1) := by decide +kernel
theorem dX2_box_65 : decode cX2_box 65 = .ok (.ireturn, 1) := by decide +kernel
theorem dX2_box_66 : decode cX2_box 66 = .ok (.aload_n 0, 1) := by decide +kernel
theorem dX2_box_67 : decode cX2_box 67 = .ok (.iconst 0, 1) := by decide +kernel
theorem dX2_box_68 : decode cX2_box 68 = .ok (.iload_n 2, 1) := by decide +kernel
theorem dX2_box_69 : decode cX2_box 69 = .ok (.iload_n 2, 1) := by decide +kernel
theorem dX2_box_70 : decode cX2_box 70 = .ok (.iload 5, 2) := by decide +kernel
theorem dX2_box_72 : decode cX2_box 72 = .ok (.iadd, 1) := by decide +kernel
theorem dX2_box_73 : decode cX2_box 73 = .ok (.invokevirtual 63, 3) := by decide +kernel
theorem dX2_box_76 : decode cX2_box 76 = .ok (.aload_n 0, 1) := by decide +kernel
theorem dX2_box_77 : decode cX2_box 77 = .ok (.iconst 1, 1) := by decide +kernel
theorem dX2_box_78 : decode cX2_box 78 = .ok (.iload_n 3, 1) := by decide +kernel
theorem dX2_box_79 : decode cX2_box 79 = .ok (.iload_n 3, 1) := by decide +kernel
theorem dX2_box_80 : decode cX2_box 80 = .ok (.iload 6, 2) := by decide +kernel
theorem dX2_box_82 : decode cX2_box 82 = .ok (.iadd, 1) := by decide +kernel
theorem dX2_box_83 : decode cX2_box 83 = .ok (.invokevirtual 63, 3) := by decide +kernel
theorem dX2_box_86 : decode cX2_box 86 = .ok (.aload_n 0, 1) := by decide +kernel
theorem dX2_box_87 : decode cX2_box 87 = .ok (.iconst 2, 1) := by decide +kernel
theorem dX2_box_88 : decode cX2_box 88 = .ok (.iload 4, 2) := by decide +kernel
theorem dX2_box_90 : decode cX2_box 90 = .ok (.iload 4, 2) := by decide +kernel
theorem dX2_box_92 : decode cX2_box 92 = .ok (.iload 7, 2) := by decide +kernel
theorem dX2_box_94 : decode cX2_box 94 = .ok (.iadd, 1) := by decide +kernel
theorem dX2_box_95 : decode cX2_box 95 = .ok (.invokevirtual 63, 3) := by decide +kernel
theorem dX2_box_98 : decode cX2_box 98 = .ok (.aload_n 0, 1) := by decide +kernel
theorem dX2_box_99 : decode cX2_box 99 = .ok (.iload_n 1, 1) := by decide +kernel
theorem dX2_box_100 : decode cX2_box 100 = .ok (.iconst (-1), 1) := by decide +kernel
theorem dX2_box_101 : decode cX2_box 101 = .ok (.iconst 0, 1) := by decide +kernel
theorem dX2_box_102 : decode cX2_box 102 = .ok (.invokevirtual 67, 3) := by decide +kernel
theorem dX2_box_105 : decode cX2_box 105 = .ok (.ireturn, 1) := by decide +kernel
set_option maxRecDepth 20000 in
theorem ggX2_tube_X2_isKind : GoodIn wsX2_tube wsX2_isKind := goodIn_r _ [6, 7, 8, 5, 9] (by decide +kernel) (by decide +kernel)
set_option maxRecDepth 20000 in
theorem gX2_tube_X2_isKind : GoodIn wsX2_tube (va_wsS RX2 55 yX2_isKind wsX2_isKind) := goodIn_app (goodIn_of _ (by decide +kernel)) ggX2_tube_X2_isKind
set_option maxRecDepth 20000 in
theorem ggX2_tube_X2_isAxis : GoodIn wsX2_tube wsX2_isAxis := goodIn_r _ [12, 7, 8, 5, 9] (by decide +kernel) (by decide +kernel)
set_option maxRecDepth 20000 in
theorem gX2_tube_X2_isAxis : GoodIn wsX2_tube (va_wsS RX2 71 yX2_isAxis wsX2_isAxis) := goodIn_app (goodIn_of _ (by decide +kernel)) ggX2_tube_X2_isAxis
set_option maxRecDepth 20000 in
theorem ggX2_tube_X2_isSpan : GoodIn wsX2_tube wsX2_isSpan := goodIn_r _ [15, 7, 8, 5, 9] (by decide +kernel) (by decide +kernel)
set_option maxRecDepth 20000 in
theorem gX2_tube_X2_isSpan : GoodIn wsX2_tube (va_wsS RX2 59 yX2_isSpan wsX2_isSpan) := goodIn_app (goodIn_of _ (by decide +kernel)) ggX2_tube_X2_isSpan
set_option maxRecDepth 20000 in
theorem ggX2_tube_X2_isIn : GoodIn wsX2_tube wsX2_isIn := goodIn_r _ [9] (by decide +kernel) (by decide +kernel)
set_option maxRecDepth 20000 in
theorem gX2_tube_X2_isIn : GoodIn wsX2_tube (va_wsS RX2 45 yX2_isIn wsX2_isIn) := goodIn_app (goodIn_of _ (by decide +kernel)) ggX2_tube_X2_isIn
set_option maxRecDepth 20000 in
theorem ggX2_tube_X2_side : GoodIn wsX2_tube wsX2_side := goodIn_r _ [19, 20, 1, 21, 32, 33, 34, 35, 36, 37, 38, 39, 40, 41, 42, 43, 44, 45, 46] (by decide +kernel) (by decide +kernel)
set_option maxRecDepth 20000 in
theorem gX2_tube_X2_side : GoodIn wsX2_tube (wsV RX2 63 RX2 yX2_side wsX2_side) := goodIn_app (goodIn_of _ (by decide +kernel)) ggX2_tube_X2_side
set_option maxRecDepth 20000 in
theorem ggX2_tube_X2_lay : GoodIn wsX2_tube wsX2_lay := goodIn_r _ [25, 26, 1, 27, 28, 29, 30, 31, 32, 33, 34, 35, 36, 37, 38, 39, 40, 41, 42, 43, 44, 45, 46] (by decide +kernel) (by decide +kernel)
set_option maxRecDepth 20000 in
theorem gX2_tube_X2_lay : GoodIn wsX2_tube (wsV RX2 67 RX2 yX2_lay wsX2_lay) := goodIn_app (goodIn_of _ (by decide +kernel)) ggX2_tube_X2_lay
theorem dX2_tube_0 : decode cX2_tube 0 = .ok (.iload_n 1, 1) := by decide +kernel
theorem dX2_tube_1 : decode cX2_tube 1 = .ok (.invokestatic 55, 3) := by decide +kernel
theorem dX2_tube_4 : decode cX2_tube 4 = .ok (.ifCond .eq 59, 3) := by decide +kernel
theorem dX2_tube_7 : decode cX2_tube 7 = .ok (.iload_n 2, 1) := by decide +kernel
theorem dX2_tube_8 : decode cX2_tube 8 = .ok (.invokestatic 71, 3) := by decide +kernel
theorem dX2_tube_11 : decode cX2_tube 11 = .ok (.ifCond .eq 52, 3) := by decide +kernel
theorem dX2_tube_14 : decode cX2_tube 14 = .ok (.iload_n 3, 1) := by decide +kernel
theorem dX2_tube_15 : decode cX2_tube 15 = .ok (.iload 4, 2) := by decide +kernel
theorem dX2_tube_17 : decode cX2_tube 17 = .ok (.invokestatic 59, 3) := by decide +kernel
theorem dX2_tube_20 : decode cX2_tube 20 = .ok (.ifCond .eq 43, 3) := by decide +kernel
theorem dX2_tube_23 : decode cX2_tube 23 = .ok (.iload 5, 2) := by decide +kernel
theorem dX2_tube_25 : decode cX2_tube 25 = .ok (.iconst 0, 1) := by decide +kernel
theorem dX2_tube_26 : decode cX2_tube 26 = .ok (.sipush 1000, 3) := by decide +kernel
theorem dX2_tube_29 : decode cX2_tube 29 = .ok (.invokestatic 45, 3) := by decide +kernel
theorem dX2_tube_32 : decode cX2_tube 32 = .ok (.ifCond .eq 31, 3) := by decide +kernel
theorem dX2_tube_35 : decode cX2_tube 35 = .ok (.iload 6, 2) := by decide +kernel
theorem dX2_tube_37 : decode cX2_tube 37 = .ok (.iconst 0, 1) := by decide +kernel
theorem dX2_tube_38 : decode cX2_tube 38 = .ok (.sipush 1000, 3) := by decide +kernel
theorem dX2_tube_41 : decode cX2_tube 41 = .ok (.invokestatic 45, 3) := by decide +kernel
theorem dX2_tube_44 : decode cX2_tube 44 = .ok (.ifCond .eq 19, 3) := by decide +kernel
theorem dX2_tube_47 : decode cX2_tube 47 = .ok (.iload 7, 2) := by decide +kernel
theorem dX2_tube_49 : decode cX2_tube 49 = .ok (.iconst 1, 1) := by decide +kernel
theorem dX2_tube_50 : decode cX2_tube 50 = .ok (.sipush 200, 3) := by decide +kernel
theorem dX2_tube_53 : decode cX2_tube 53 = .ok (.invokestatic 45, 3) := by decide +kernel
theorem dX2_tube_56 : decode cX2_tube 56 = .ok (.ifCond .eq 7, 3) := by decide +kernel
theorem dX2_tube_59 : decode cX2_tube 59 = .ok (.iconst 1, 1) := by decide +kernel
theorem dX2_tube_60 : decode cX2_tube 60 = .ok (.goto 4, 3) := by decide +kernel
theorem dX2_tube_63 : decode cX2_tube 63 = .ok (.iconst 0, 1) := by decide +kernel
theorem dX2_tube_64 : decode cX2_tube 64 = .ok (.istore 8, 2) := by decide +kernel
theorem dX2_tube_66 : decode cX2_tube 66 = .ok (.aload_n 0, 1) := by decide +kernel
theorem dX2_tube_67 : decode cX2_tube 67 = .ok (.iload 8, 2) := by decide +kernel
theorem dX2_tube_69 : decode cX2_tube 69 = .ok (.ifCond .ne 7, 3) := by decide +kernel
theorem dX2_tube_72 : decode cX2_tube 72 = .ok (.iconst 1, 1) := by decide +kernel
theorem dX2_tube_73 : decode cX2_tube 73 = .ok (.goto 17, 3) := by decide +kernel
theorem dX2_tube_76 : decode cX2_tube 76 = .ok (.aload_n 0, 1) := by decide +kernel
theorem dX2_tube_77 : decode cX2_tube 77 = .ok (.getfield 49, 3) := by decide +kernel
theorem dX2_tube_80 : decode cX2_tube 80 = .ok (.bipush 60, 2) := by decide +kernel
theorem dX2_tube_82 : decode cX2_tube 82 = .ok (.if_icmp .ne 7, 3) := by decide +kernel
theorem dX2_tube_85 : decode cX2_tube 85 = .ok (.iconst 2, 1) := by decide +kernel
theorem dX2_tube_86 : decode cX2_tube 86 = .ok (.goto 4, 3) := by decide +kernel
theorem dX2_tube_89 : decode cX2_tube 89 = .ok (.iconst 0, 1) := by decide +kernel
theorem dX2_tube_90 : decode cX2_tube 90 = .ok (.putfield 42, 3) := by decide +kernel
theorem dX2_tube_93 : decode cX2_tube 93 = .ok (.aload_n 0, 1) := by decide +kernel
theorem dX2_tube_94 : decode cX2_tube 94 = .ok (.getfield 42, 3) := by decide +kernel
theorem dX2_tube_97 : decode cX2_tube 97 = .ok (.ifCond .le 5, 3) := by decide +kernel
theorem dX2_tube_100 : decode cX2_tube 100 = .ok (.iconst 0, 1) := by decide +kernel
theorem dX2_tube_101 : decode cX2_tube 101 = .ok (.ireturn, 1) := by decide +kernel
theorem dX2_tube_102 : decode cX2_tube 102 = .ok (.aload_n 0, 1) := by decide +kernel
theorem dX2_tube_103 : decode cX2_tube 103 = .ok (.iload_n 2, 1) := by decide +kernel
theorem dX2_tube_104 : decode cX2_tube 104 = .ok (.iload_n 3, 1) := by decide +kernel
theorem dX2_tube_105 : decode cX2_tube 105 = .ok (.iload_n 3, 1) := by decide +kernel
theorem dX2_tube_106 : decode cX2_tube 106 = .ok (.iload 4, 2) := by decide +kernel
theorem dX2_tube_108 : decode cX2_tube 108 = .ok (.iadd, 1) := by decide +kernel
theorem dX2_tube_109 : decode cX2_tube 109 = .ok (.invokevirtual 63, 3) := by decide +kernel
theorem dX2_tube_112 : decode cX2_tube 112 = .ok (.aload_n 0, 1) := by decide +kernel
theorem dX2_tube_113 : decode cX2_tube 113 = .ok (.iload_n 2, 1) := by decide +kernel
theorem dX2_tube_114 : decode cX2_tube 114 = .ok (.ifCond .ne 7, 3) := by decide +kernel
theorem dX2_tube_117 : decode cX2_tube 117 = .ok (.iconst 1, 1) := by decide +kernel
theorem dX2_tube_118 : decode cX2_tube 118 = .ok (.goto 4, 3) := by decide +kernel
theorem dX2_tube_121 : decode cX2_tube 121 = .ok (.iconst 0, 1) := by decide +kernel
theorem dX2_tube_122 : decode cX2_tube 122 = .ok (.iload 5, 2) := by decide +kernel
theorem dX2_tube_124 : decode cX2_tube 124 = .ok (.iload 5, 2) := by decide +kernel
theorem dX2_tube_126 : decode cX2_tube 126 = .ok (.invokevirtual 63, 3) := by decide +kernel
theorem dX2_tube_129 : decode cX2_tube 129 = .ok (.aload_n 0, 1) := by decide +kernel
theorem dX2_tube_130 : decode cX2_tube 130 = .ok (.iload_n 2, 1) := by decide +kernel
theorem dX2_tube_131 : decode cX2_tube 131 = .ok (.iconst 2, 1) := by decide +kernel
theorem dX2_tube_132 : decode cX2_tube 132 = .ok (.if_icmp .ne 7, 3) := by decide +kernel
theorem dX2_tube_135 : decode cX2_tube 135 = .ok (.iconst 1, 1) := by decide +kernel
theorem dX2_tube_136 : decode cX2_tube 136 = .ok (.goto 4, 3) := by decide +kernel
theorem dX2_tube_139 : decode cX2_tube 139 = .ok (.iconst 2, 1) := by decide +kernel
theorem dX2_tube_140 : decode cX2_tube 140 = .ok (.iload 6, 2) := by decide +kernel
theorem dX2_tube_142 : decode cX2_tube 142 = .ok (.iload 6, 2) := by decide +kernel
theorem dX2_tube_144 : decode cX2_tube 144 = .ok (.invokevirtual 63, 3) := by decide +kernel
theorem dX2_tube_147 : decode cX2_tube 147 = .ok (.aload_n 0, 1) := by decide +kernel
theorem dX2_tube_148 : decode cX2_tube 148 = .ok (.iload_n 1, 1) := by decide +kernel
theorem dX2_tube_149 : decode cX2_tube 149 = .ok (.iload_n 2, 1) := by decide +kernel
theorem dX2_tube_150 : decode cX2_tube 150 = .ok (.iload 7, 2) := by decide +kernel
theorem dX2_tube_152 : decode cX2_tube 152 = .ok (.invokevirtual 67, 3) := by decide +kernel
theorem dX2_tube_155 : decode cX2_tube 155 = .ok (.ireturn, 1) := by decide +kernel
set_option maxRecDepth 20000 in
theorem ggX2_margin_X2_isPart : GoodIn wsX2_margin wsX2_isPart := goodIn_r _ [7, 8, 9, 10, 11, 6, 12, 13, 14, 15, 16, 17, 18, 19, 20, 21, 22, 23, 24, 25, 26, 27] (by decide +kernel) (by decide +kernel)
set_option maxRecDepth 20000 in
theorem gX2_margin_X2_isPart : GoodIn wsX2_margin (wsV RX2 74 RX2 yX2_isPart wsX2_isPart) := goodIn_app (goodIn_of _ (by decide +kernel)) ggX2_margin_X2_isPart
set_option maxRecDepth 20000 in
theorem ggX2_margin_X2_isIn : GoodIn wsX2_margin wsX2_isIn := goodIn_r _ [12] (by decide +kernel) (by decide +kernel)
set_option maxRecDepth 20000 in
theorem gX2_margin_X2_isIn : GoodIn wsX2_margin (va_wsS RX2 45 yX2_isIn wsX2_isIn) := goodIn_app (goodIn_of _ (by decide +kernel)) ggX2_margin_X2_isIn
theorem dX2_margin_0 : decode cX2_margin 0 = .ok (.aload_n 0, 1) := by decide +kernel
theorem dX2_margin_1 : decode cX2_margin 1 = .ok (.aload_n 0, 1) := by decide +kernel
theorem dX2_margin_2 : decode cX2_margin 2 = .ok (.iload_n 1, 1) := by decide +kernel
theorem dX2_margin_3 : decode cX2_margin 3 = .ok (.invokevirtual 74, 3) := by decide +kernel
theorem dX2_margin_6 : decode cX2_margin 6 = .ok (.ifCond .eq 13, 3) := by decide +kernel
theorem dX2_margin_9 : decode cX2_margin 9 = .ok (.iload_n 2, 1) := by decide +kernel
theorem dX2_margin_10 : decode cX2_margin 10 = .ok (.iconst 0, 1) := by decide +kernel
theorem dX2_margin_11 : decode cX2_margin 11 = .ok (.bipush 50, 2) := by decide +kernel
theorem dX2_margin_13 : decode cX2_margin 13 = .ok (.invokestatic 45, 3) := by decide +kernel
theorem dX2_margin_16 : decode cX2_margin 16 = .ok (.ifCond .ne 7, 3) := by decide +kernel
theorem dX2_margin_19 : decode cX2_margin 19 = .ok (.iconst 1, 1) := by decide +kernel
theorem dX2_margin_20 : decode cX2_margin 20 = .ok (.goto 4, 3) := by decide +kernel
theorem dX2_margin_23 : decode cX2_margin 23 = .ok (.iconst 0, 1) := by decide +kernel
theorem dX2_margin_24 : decode cX2_margin 24 = .ok (.putfield 42, 3) := by decide +kernel
theorem dX2_margin_27 : decode cX2_margin 27 = .ok (.aload_n 0, 1) := by decide +kernel
theorem dX2_margin_28 : decode cX2_margin 28 = .ok (.getfield 42, 3) := by decide +kernel
theorem dX2_margin_31 : decode cX2_margin 31 = .ok (.ifCond .le 5, 3) := by decide +kernel
theorem dX2_margin_34 : decode cX2_margin 34 = .ok (.iconst 0, 1) := by decide +kernel
theorem dX2_margin_35 : decode cX2_margin 35 = .ok (.ireturn, 1) := by decide +kernel
theorem dX2_margin_36 : decode cX2_margin 36 = .ok (.aload_n 0, 1) := by decide +kernel
theorem dX2_margin_37 : decode cX2_margin 37 = .ok (.getfield 17, 3) := by decide +kernel
theorem dX2_margin_40 : decode cX2_margin 40 = .ok (.iload_n 1, 1) := by decide +kernel
theorem dX2_margin_41 : decode cX2_margin 41 = .ok (.iaload, 1) := by decide +kernel
theorem dX2_margin_42 : decode cX2_margin 42 = .ok (.istore_n 3, 1) := by decide +kernel
theorem dX2_margin_43 : decode cX2_margin 43 = .ok (.aload_n 0, 1) := by decide +kernel
theorem dX2_margin_44 : decode cX2_margin 44 = .ok (.getfield 17, 3) := by decide +kernel
theorem dX2_margin_47 : decode cX2_margin 47 = .ok (.iload_n 1, 1) := by decide +kernel
theorem dX2_margin_48 : decode cX2_margin 48 = .ok (.iload_n 2, 1) := by decide +kernel
theorem dX2_margin_49 : decode cX2_margin 49 = .ok (.iastore, 1) := by decide +kernel
theorem dX2_margin_50 : decode cX2_margin 50 = .ok (.iload_n 3, 1) := by decide +kernel
theorem dX2_margin_51 : decode cX2_margin 51 = .ok (.ireturn, 1) := by decide +kernel
set_option maxRecDepth 20000 in
theorem ggX2_free_X2_isKind : GoodIn wsX2_free wsX2_isKind := goodIn_r _ [6, 7, 8, 5, 9] (by decide +kernel) (by decide +kernel)
set_option maxRecDepth 20000 in
theorem gX2_free_X2_isKind : GoodIn wsX2_free (va_wsS RX2 55 yX2_isKind wsX2_isKind) := goodIn_app (goodIn_of _ (by decide +kernel)) ggX2_free_X2_isKind
theorem dX2_free_0 : decode cX2_free 0 = .ok (.aload_n 0, 1) := by decide +kernel
theorem dX2_free_1 : decode cX2_free 1 = .ok (.iload_n 1, 1) := by decide +kernel
theorem dX2_free_2 : decode cX2_free 2 = .ok (.invokestatic 55, 3) := by decide +kernel
theorem dX2_free_5 : decode cX2_free 5 = .ok (.ifCond .eq 10, 3) := by decide +kernel
theorem dX2_free_8 : decode cX2_free 8 = .ok (.iload_n 2, 1) := by decide +kernel
theorem dX2_free_9 : decode cX2_free 9 = .ok (.invokestatic 55, 3) := by decide +kernel
theorem dX2_free_12 : decode cX2_free 12 = .ok (.ifCond .ne 7, 3) := by decide +kernel
theorem dX2_free_15 : decode cX2_free 15 = .ok (.iconst 1, 1) := by decide +kernel
theorem dX2_free_16 : decode cX2_free 16 = .ok (.goto 4, 3) := by decide +kernel
theorem dX2_free_19 : decode cX2_free 19 = .ok (.iconst 0, 1) := by decide +kernel
theorem dX2_free_20 : decode cX2_free 20 = .ok (.putfield 42, 3) := by decide +kernel
theorem dX2_free_23 : decode cX2_free 23 = .ok (.aload_n 0, 1) := by decide +kernel
theorem dX2_free_24 : decode cX2_free 24 = .ok (.getfield 42, 3) := by decide +kernel
theorem dX2_free_27 : decode cX2_free 27 = .ok (.ifCond .le 5, 3) := by decide +kernel
theorem dX2_free_30 : decode cX2_free 30 = .ok (.iconst 0, 1) := by decide +kernel
theorem dX2_free_31 : decode cX2_free 31 = .ok (.ireturn, 1) := by decide +kernel
theorem dX2_free_32 : decode cX2_free 32 = .ok (.aload_n 0, 1) := by decide +kernel
theorem dX2_free_33 : decode cX2_free 33 = .ok (.getfield 32, 3) := by decide +kernel
theorem dX2_free_36 : decode cX2_free 36 = .ok (.bipush 8, 2) := by decide +kernel
theorem dX2_free_38 : decode cX2_free 38 = .ok (.iload_n 1, 1) := by decide +kernel
theorem dX2_free_39 : decode cX2_free 39 = .ok (.imul, 1) := by decide +kernel
theorem dX2_free_40 : decode cX2_free 40 = .ok (.iload_n 2, 1) := by decide +kernel
theorem dX2_free_41 : decode cX2_free 41 = .ok (.iadd, 1) := by decide +kernel
theorem dX2_free_42 : decode cX2_free 42 = .ok (.baload, 1) := by decide +kernel
theorem dX2_free_43 : decode cX2_free 43 = .ok (.istore 4, 2) := by decide +kernel
theorem dX2_free_45 : decode cX2_free 45 = .ok (.aload_n 0, 1) := by decide +kernel
theorem dX2_free_46 : decode cX2_free 46 = .ok (.getfield 32, 3) := by decide +kernel
theorem dX2_free_49 : decode cX2_free 49 = .ok (.bipush 8, 2) := by decide +kernel
theorem dX2_free_51 : decode cX2_free 51 = .ok (.iload_n 1, 1) := by decide +kernel
theorem dX2_free_52 : decode cX2_free 52 = .ok (.imul, 1) := by decide +kernel
theorem dX2_free_53 : decode cX2_free 53 = .ok (.iload_n 2, 1) := by decide +kernel
theorem dX2_free_54 : decode cX2_free 54 = .ok (.iadd, 1) := by decide +kernel
theorem dX2_free_55 : decode cX2_free 55 = .ok (.iload_n 3, 1) := by decide +kernel
theorem dX2_free_56 : decode cX2_free 56 = .ok (.bastore, 1) := by decide +kernel
theorem dX2_free_57 : decode cX2_free 57 = .ok (.aload_n 0, 1) := by decide +kernel
theorem dX2_free_58 : decode cX2_free 58 = .ok (.getfield 32, 3) := by decide +kernel
theorem dX2_free_61 : decode cX2_free 61 = .ok (.bipush 8, 2) := by decide +kernel
theorem dX2_free_63 : decode cX2_free 63 = .ok (.iload_n 2, 1) := by decide +kernel
theorem dX2_free_64 : decode cX2_free 64 = .ok (.imul, 1) := by decide +kernel
theorem dX2_free_65 : decode cX2_free 65 = .ok (.iload_n 1, 1) := by decide +kernel
theorem dX2_free_66 : decode cX2_free 66 = .ok (.iadd, 1) := by decide +kernel
theorem dX2_free_67 : decode cX2_free 67 = .ok (.iload_n 3, 1) := by decide +kernel
theorem dX2_free_68 : decode cX2_free 68 = .ok (.bastore, 1) := by decide +kernel
theorem dX2_free_69 : decode cX2_free 69 = .ok (.iload 4, 2) := by decide +kernel
theorem dX2_free_71 : decode cX2_free 71 = .ok (.ireturn, 1) := by decide +kernel
theorem dX2_mayMove_0 : decode cX2_mayMove 0 = .ok (.aload_n 0, 1) := by decide +kernel
theorem dX2_mayMove_1 : decode cX2_mayMove 1 = .ok (.getfield 26, 3) := by decide +kernel
theorem dX2_mayMove_4 : decode cX2_mayMove 4 = .ok (.iconst 3, 1) := by decide +kernel
theorem dX2_mayMove_5 : decode cX2_mayMove 5 = .ok (.iload_n 1, 1) := by decide +kernel
theorem dX2_mayMove_6 : decode cX2_mayMove 6 = .ok (.imul, 1) := by decide +kernel
theorem dX2_mayMove_7 : decode cX2_mayMove 7 = .ok (.iload_n 2, 1) := by decide +kernel
theorem dX2_mayMove_8 : decode cX2_mayMove 8 = .ok (.iadd, 1) := by decide +kernel
theorem dX2_mayMove_9 : decode cX2_mayMove 9 = .ok (.iaload, 1) := by decide +kernel
theorem dX2_mayMove_10 : decode cX2_mayMove 10 = .ok (.iload_n 3, 1) := by decide +kernel
theorem dX2_mayMove_11 : decode cX2_mayMove 11 = .ok (.iadd, 1) := by decide +kernel
theorem dX2_mayMove_12 : decode cX2_mayMove 12 = .ok (.ifCond .lt 25, 3) := by decide +kernel
theorem dX2_mayMove_15 : decode cX2_mayMove 15 = .ok (.aload_n 0, 1) := by decide +kernel
theorem dX2_mayMove_16 : decode cX2_mayMove 16 = .ok (.getfield 29, 3) := by decide +kernel
theorem dX2_mayMove_19 : decode cX2_mayMove 19 = .ok (.iconst 3, 1) := by decide +kernel
theorem dX2_mayMove_20 : decode cX2_mayMove 20 = .ok (.iload_n 1, 1) := by decide +kernel
theorem dX2_mayMove_21 : decode cX2_mayMove 21 = .ok (.imul, 1) := by decide +kernel
theorem dX2_mayMove_22 : decode cX2_mayMove 22 = .ok (.iload_n 2, 1) := by decide +kernel
theorem dX2_mayMove_23 : decode cX2_mayMove 23 = .ok (.iadd, 1) := by decide +kernel
theorem dX2_mayMove_24 : decode cX2_mayMove 24 = .ok (.iaload, 1) := by decide +kernel
theorem dX2_mayMove_25 : decode cX2_mayMove 25 = .ok (.iload_n 3, 1) := by decide +kernel
theorem dX2_mayMove_26 : decode cX2_mayMove 26 = .ok (.iadd, 1) := by decide +kernel
theorem dX2_mayMove_27 : decode cX2_mayMove 27 = .ok (.sipush 1000, 3) := by decide +kernel
theorem dX2_mayMove_30 : decode cX2_mayMove 30 = .ok (.if_icmp .gt 7, 3) := by decide +kernel
theorem dX2_mayMove_33 : decode cX2_mayMove 33 = .ok (.iconst 1, 1) := by decide +kernel
theorem dX2_mayMove_34 : decode cX2_mayMove 34 = .ok (.goto 4, 3) := by decide +kernel
theorem dX2_mayMove_37 : decode cX2_mayMove 37 = .ok (.iconst 0, 1) := by decide +kernel
theorem dX2_mayMove_38 : decode cX2_mayMove 38 = .ok (.ireturn, 1) := by decide +kernel
set_option maxRecDepth 20000 in
theorem ggX2_move_X2_isPart : GoodIn wsX2_move wsX2_isPart := goodIn_r _ [8, 9, 10, 11, 12, 7, 13, 21, 22, 23, 24, 25, 26, 27, 28, 29, 30, 31, 32, 33, 34, 35] (by decide +kernel) (by decide +kernel)
set_option maxRecDepth 20000 in
theorem gX2_move_X2_isPart : GoodIn wsX2_move (wsV RX2 74 RX2 yX2_isPart wsX2_isPart) := goodIn_app (goodIn_of _ (by decide +kernel)) ggX2_move_X2_isPart
set_option maxRecDepth 20000 in
theorem ggX2_move_X2_isAxis : GoodIn wsX2_move wsX2_isAxis := goodIn_r _ [16, 11, 12, 7, 13] (by decide +kernel) (by decide +kernel)
set_option maxRecDepth 20000 in
theorem gX2_move_X2_isAxis : GoodIn wsX2_move (va_wsS RX2 71 yX2_isAxis wsX2_isAxis) := goodIn_app (goodIn_of _ (by decide +kernel)) ggX2_move_X2_isAxis
set_option maxRecDepth 20000 in
theorem ggX2_move_X2_isIn : GoodIn wsX2_move wsX2_isIn := goodIn_r _ [13] (by decide +kernel) (by decide +kernel)
set_option maxRecDepth 20000 in
theorem gX2_move_X2_isIn : GoodIn wsX2_move (va_wsS RX2 45 yX2_isIn wsX2_isIn) := goodIn_app (goodIn_of _ (by decide +kernel)) ggX2_move_X2_isIn
set_option maxRecDepth 20000 in
theorem ggX2_move_X2_mayMove : GoodIn wsX2_move wsX2_mayMove := goodIn_r _ [20, 2, 3, 21, 22, 23, 24, 25, 26, 27, 28, 29, 30, 31, 32, 33, 34, 35] (by decide +kernel) (by decide +kernel)
set_option maxRecDepth 20000 in
theorem gX2_move_X2_mayMove : GoodIn wsX2_move (wsV RX2 77 RX2 yX2_mayMove wsX2_mayMove) := goodIn_app (goodIn_of _ (by decide +kernel)) ggX2_move_X2_mayMove
theorem dX2_move_0 : decode cX2_move 0 = .ok (.aload_n 0, 1) := by decide +kernel
theorem dX2_move_1 : decode cX2_move 1 = .ok (.aload_n 0, 1) := by decide +kernel
theorem dX2_move_2 : decode cX2_move 2 = .ok (.iload_n 1, 1) := by decide +kernel
theorem dX2_move_3 : decode cX2_move 3 = .ok (.invokevirtual 74, 3) := by decide +kernel
theorem dX2_move_6 : decode cX2_move 6 = .ok (.ifCond .eq 23, 3) := by decide +kernel
theorem dX2_move_9 : decode cX2_move 9 = .ok (.iload_n 2, 1) := by decide +kernel
theorem dX2_move_10 : decode cX2_move 10 = .ok (.invokestatic 71, 3) := by decide +kernel
theorem dX2_move_13 : decode cX2_move 13 = .ok (.ifCond .eq 16, 3) := by decide +kernel
theorem dX2_move_16 : decode cX2_move 16 = .ok (.iload_n 3, 1) := by decide +kernel
theorem dX2_move_17 : decode cX2_move 17 = .ok (.sipush (-1000), 3) := by decide +kernel
theorem dX2_move_20 : decode cX2_move 20 = .ok (.sipush 1000, 3) := by decide +kernel
theorem dX2_move_23 : decode cX2_move 23 = .ok (.invokestatic 45, 3) := by decide +kernel
theorem dX2_move_26 : decode cX2_move 26 = .ok (.ifCond .ne 7, 3) := by decide +kernel
theorem dX2_move_29 : decode cX2_move 29 = .ok (.iconst 1, 1) := by decide +kernel
theorem dX2_move_30 : decode cX2_move 30 = .ok (.goto 4, 3) := by decide +kernel
theorem dX2_move_33 : decode cX2_move 33 = .ok (.iconst 0, 1) := by decide +kernel
theorem dX2_move_34 : decode cX2_move 34 = .ok (.putfield 42, 3) := by decide +kernel
theorem dX2_move_37 : decode cX2_move 37 = .ok (.aload_n 0, 1) := by decide +kernel
theorem dX2_move_38 : decode cX2_move 38 = .ok (.getfield 42, 3) := by decide +kernel
theorem dX2_move_41 : decode cX2_move 41 = .ok (.ifCond .gt 13, 3) := by decide +kernel
theorem dX2_move_44 : decode cX2_move 44 = .ok (.aload_n 0, 1) := by decide +kernel
theorem dX2_move_45 : decode cX2_move 45 = .ok (.iload_n 1, 1) := by decide +kernel
theorem dX2_move_46 : decode cX2_move 46 = .ok (.iload_n 2, 1) := by decide +kernel
theorem dX2_move_47 : decode cX2_move 47 = .ok (.iload_n 3, 1) := by decide +kernel
theorem dX2_move_48 : decode cX2_move 48 = .ok (.invokevirtual 77, 3) := by decide +kernel
theorem dX2_move_51 : decode cX2_move 51 = .ok (.ifCond .ne 5, 3) := by decide +kernel
theorem dX2_move_54 : decode cX2_move 54 = .ok (.iconst 0, 1) := by decide +kernel
theorem dX2_move_55 : decode cX2_move 55 = .ok (.ireturn, 1) := by decide +kernel
theorem dX2_move_56 : decode cX2_move 56 = .ok (.aload_n 0, 1) := by decide +kernel
theorem dX2_move_57 : decode cX2_move 57 = .ok (.getfield 26, 3) := by decide +kernel
theorem dX2_move_60 : decode cX2_move 60 = .ok (.iconst 3, 1) := by decide +kernel
theorem dX2_move_61 : decode cX2_move 61 = .ok (.iload_n 1, 1) := by decide +kernel
theorem dX2_move_62 : decode cX2_move 62 = .ok (.imul, 1) := by decide +kernel
theorem dX2_move_63 : decode cX2_move 63 = .ok (.iload_n 2, 1) := by decide +kernel
theorem dX2_move_64 : decode cX2_move 64 = .ok (.iadd, 1) := by decide +kernel
theorem dX2_move_65 : decode cX2_move 65 = .ok (.dup2, 1) := by decide +kernel
theorem dX2_move_66 : decode cX2_move 66 = .ok (.iaload, 1) := by decide +kernel
theorem dX2_move_67 : decode cX2_move 67 = .ok (.iload_n 3, 1) := by decide +kernel
theorem dX2_move_68 : decode cX2_move 68 = .ok (.iadd, 1) := by decide +kernel
theorem dX2_move_69 : decode cX2_move 69 = .ok (.iastore, 1) := by decide +kernel
theorem dX2_move_70 : decode cX2_move 70 = .ok (.aload_n 0, 1) := by decide +kernel
theorem dX2_move_71 : decode cX2_move 71 = .ok (.getfield 29, 3) := by decide +kernel
theorem dX2_move_74 : decode cX2_move 74 = .ok (.iconst 3, 1) := by decide +kernel
theorem dX2_move_75 : decode cX2_move 75 = .ok (.iload_n 1, 1) := by decide +kernel
theorem dX2_move_76 : decode cX2_move 76 = .ok (.imul, 1) := by decide +kernel
theorem dX2_move_77 : decode cX2_move 77 = .ok (.iload_n 2, 1) := by decide +kernel
theorem dX2_move_78 : decode cX2_move 78 = .ok (.iadd, 1) := by decide +kernel
theorem dX2_move_79 : decode cX2_move 79 = .ok (.dup2, 1) := by decide +kernel
theorem dX2_move_80 : decode cX2_move 80 = .ok (.iaload, 1) := by decide +kernel
theorem dX2_move_81 : decode cX2_move 81 = .ok (.iload_n 3, 1) := by decide +kernel
theorem dX2_move_82 : decode cX2_move 82 = .ok (.iadd, 1) := by decide +kernel
theorem dX2_move_83 : decode cX2_move 83 = .ok (.iastore, 1) := by decide +kernel
theorem dX2_move_84 : decode cX2_move 84 = .ok (.iconst 1, 1) := by decide +kernel
theorem dX2_move_85 : decode cX2_move 85 = .ok (.ireturn, 1) := by decide +kernel
set_option maxRecDepth 20000 in
theorem ggX2_drop_X2_isPart : GoodIn wsX2_drop wsX2_isPart := goodIn_r _ [8, 9, 2, 10, 11, 7, 12, 13, 14, 15, 16, 17, 18, 19, 20, 21, 22, 23, 24, 25, 26, 27] (by decide +kernel) (by decide +kernel)
set_option maxRecDepth 20000 in
theorem gX2_drop_X2_isPart : GoodIn wsX2_drop (wsV RX2 74 RX2 yX2_isPart wsX2_isPart) := goodIn_app (goodIn_of _ (by decide +kernel)) ggX2_drop_X2_isPart
theorem dX2_drop_0 : decode cX2_drop 0 = .ok (.aload_n 0, 1) := by decide +kernel
theorem dX2_drop_1 : decode cX2_drop 1 = .ok (.aload_n 0, 1) := by decide +kernel
theorem dX2_drop_2 : decode cX2_drop 2 = .ok (.iload_n 1, 1) := by decide +kernel
theorem dX2_drop_3 : decode cX2_drop 3 = .ok (.invokevirtual 74, 3) := by decide +kernel
theorem dX2_drop_6 : decode cX2_drop 6 = .ok (.ifCond .eq 7, 3) := by decide +kernel
theorem dX2_drop_9 : decode cX2_drop 9 = .ok (.iconst 0, 1) := by decide +kernel
theorem dX2_drop_10 : decode cX2_drop 10 = .ok (.goto 4, 3) := by decide +kernel
theorem dX2_drop_13 : decode cX2_drop 13 = .ok (.iconst 1, 1) := by decide +kernel
theorem dX2_drop_14 : decode cX2_drop 14 = .ok (.putfield 42, 3) := by decide +kernel
theorem dX2_drop_17 : decode cX2_drop 17 = .ok (.aload_n 0, 1) := by decide +kernel
theorem dX2_drop_18 : decode cX2_drop 18 = .ok (.getfield 42, 3) := by decide +kernel
theorem dX2_drop_21 : decode cX2_drop 21 = .ok (.ifCond .le 5, 3) := by decide +kernel
theorem dX2_drop_24 : decode cX2_drop 24 = .ok (.iconst 0, 1) := by decide +kernel
theorem dX2_drop_25 : decode cX2_drop 25 = .ok (.ireturn, 1) := by decide +kernel
theorem dX2_drop_26 : decode cX2_drop 26 = .ok (.aload_n 0, 1) := by decide +kernel
theorem dX2_drop_27 : decode cX2_drop 27 = .ok (.getfield 7, 3) := by decide +kernel
theorem dX2_drop_30 : decode cX2_drop 30 = .ok (.iload_n 1, 1) := by decide +kernel
theorem dX2_drop_31 : decode cX2_drop 31 = .ok (.iconst 0, 1) := by decide +kernel
theorem dX2_drop_32 : decode cX2_drop 32 = .ok (.bastore, 1) := by decide +kernel
theorem dX2_drop_33 : decode cX2_drop 33 = .ok (.aload_n 0, 1) := by decide +kernel
theorem dX2_drop_34 : decode cX2_drop 34 = .ok (.dup, 1) := by decide +kernel
theorem dX2_drop_35 : decode cX2_drop 35 = .ok (.getfield 52, 3) := by decide +kernel
theorem dX2_drop_38 : decode cX2_drop 38 = .ok (.iconst 1, 1) := by decide +kernel
theorem dX2_drop_39 : decode cX2_drop 39 = .ok (.isub, 1) := by decide +kernel
theorem dX2_drop_40 : decode cX2_drop 40 = .ok (.putfield 52, 3) := by decide +kernel
theorem dX2_drop_43 : decode cX2_drop 43 = .ok (.aload_n 0, 1) := by decide +kernel
theorem dX2_drop_44 : decode cX2_drop 44 = .ok (.getfield 52, 3) := by decide +kernel
theorem dX2_drop_47 : decode cX2_drop 47 = .ok (.ireturn, 1) := by decide +kernel
theorem dX2_end_0 : decode cX2_end 0 = .ok (.iload_n 3, 1) := by decide +kernel
theorem dX2_end_1 : decode cX2_end 1 = .ok (.ifCond .eq 16, 3) := by decide +kernel
theorem dX2_end_4 : decode cX2_end 4 = .ok (.aload_n 0, 1) := by decide +kernel
theorem dX2_end_5 : decode cX2_end 5 = .ok (.getfield 29, 3) := by decide +kernel
theorem dX2_end_8 : decode cX2_end 8 = .ok (.iconst 3, 1) := by decide +kernel
theorem dX2_end_9 : decode cX2_end 9 = .ok (.iload_n 1, 1) := by decide +kernel
theorem dX2_end_10 : decode cX2_end 10 = .ok (.imul, 1) := by decide +kernel
theorem dX2_end_11 : decode cX2_end 11 = .ok (.iload_n 2, 1) := by decide +kernel
theorem dX2_end_12 : decode cX2_end 12 = .ok (.iadd, 1) := by decide +kernel
theorem dX2_end_13 : decode cX2_end 13 = .ok (.iaload, 1) := by decide +kernel
theorem dX2_end_14 : decode cX2_end 14 = .ok (.goto 13, 3) := by decide +kernel
theorem dX2_end_17 : decode cX2_end 17 = .ok (.aload_n 0, 1) := by decide +kernel
theorem dX2_end_18 : decode cX2_end 18 = .ok (.getfield 26, 3) := by decide +kernel
theorem dX2_end_21 : decode cX2_end 21 = .ok (.iconst 3, 1) := by decide +kernel
theorem dX2_end_22 : decode cX2_end 22 = .ok (.iload_n 1, 1) := by decide +kernel
theorem dX2_end_23 : decode cX2_end 23 = .ok (.imul, 1) := by decide +kernel
theorem dX2_end_24 : decode cX2_end 24 = .ok (.iload_n 2, 1) := by decide +kernel
theorem dX2_end_25 : decode cX2_end 25 = .ok (.iadd, 1) := by decide +kernel
theorem dX2_end_26 : decode cX2_end 26 = .ok (.iaload, 1) := by decide +kernel
theorem dX2_end_27 : decode cX2_end 27 = .ok (.istore 5, 2) := by decide +kernel
theorem dX2_end_29 : decode cX2_end 29 = .ok (.iload 5, 2) := by decide +kernel
theorem dX2_end_31 : decode cX2_end 31 = .ok (.iload_n 1, 1) := by decide +kernel
theorem dX2_end_32 : decode cX2_end 32 = .ok (.aload_n 0, 1) := by decide +kernel
theorem dX2_end_33 : decode cX2_end 33 = .ok (.getfield 38, 3) := by decide +kernel
theorem dX2_end_36 : decode cX2_end 36 = .ok (.if_icmp .ne 18, 3) := by decide +kernel
theorem dX2_end_39 : decode cX2_end 39 = .ok (.iload_n 2, 1) := by decide +kernel
theorem dX2_end_40 : decode cX2_end 40 = .ok (.aload_n 0, 1) := by decide +kernel
theorem dX2_end_41 : decode cX2_end 41 = .ok (.getfield 80, 3) := by decide +kernel
theorem dX2_end_44 : decode cX2_end 44 = .ok (.if_icmp .ne 10, 3) := by decide +kernel
theorem dX2_end_47 : decode cX2_end 47 = .ok (.aload_n 0, 1) := by decide +kernel
theorem dX2_end_48 : decode cX2_end 48 = .ok (.getfield 83, 3) := by decide +kernel
theorem dX2_end_51 : decode cX2_end 51 = .ok (.goto 4, 3) := by decide +kernel
theorem dX2_end_54 : decode cX2_end 54 = .ok (.iconst 0, 1) := by decide +kernel
theorem dX2_end_55 : decode cX2_end 55 = .ok (.iadd, 1) := by decide +kernel
theorem dX2_end_56 : decode cX2_end 56 = .ok (.istore 5, 2) := by decide +kernel
theorem dX2_end_58 : decode cX2_end 58 = .ok (.aload_n 0, 1) := by decide +kernel
theorem dX2_end_59 : decode cX2_end 59 = .ok (.getfield 20, 3) := by decide +kernel
theorem dX2_end_62 : decode cX2_end 62 = .ok (.iload_n 1, 1) := by decide +kernel
theorem dX2_end_63 : decode cX2_end 63 = .ok (.iaload, 1) := by decide +kernel
theorem dX2_end_64 : decode cX2_end 64 = .ok (.ifCond .lt 17, 3) := by decide +kernel
theorem dX2_end_67 : decode cX2_end 67 = .ok (.aload_n 0, 1) := by decide +kernel
theorem dX2_end_68 : decode cX2_end 68 = .ok (.getfield 20, 3) := by decide +kernel
theorem dX2_end_71 : decode cX2_end 71 = .ok (.iload_n 1, 1) := by decide +kernel
theorem dX2_end_72 : decode cX2_end 72 = .ok (.iaload, 1) := by decide +kernel
theorem dX2_end_73 : decode cX2_end 73 = .ok (.iload_n 2, 1) := by decide +kernel
theorem dX2_end_74 : decode cX2_end 74 = .ok (.if_icmp .eq 7, 3) := by decide +kernel
theorem dX2_end_77 : decode cX2_end 77 = .ok (.iconst 1, 1) := by decide +kernel
theorem dX2_end_78 : decode cX2_end 78 = .ok (.goto 4, 3) := by decide +kernel
theorem dX2_end_81 : decode cX2_end 81 = .ok (.iconst 0, 1) := by decide +kernel
theorem dX2_end_82 : decode cX2_end 82 = .ok (.istore 6, 2) := by decide +kernel
theorem dX2_end_84 : decode cX2_end 84 = .ok (.iload 6, 2) := by decide +kernel
theorem dX2_end_86 : decode cX2_end 86 = .ok (.ifCond .eq 8, 3) := by decide +kernel
theorem dX2_end_89 : decode cX2_end 89 = .ok (.iload 5, 2) := by decide +kernel
theorem dX2_end_91 : decode cX2_end 91 = .ok (.goto 20, 3) := by decide +kernel
theorem dX2_end_94 : decode cX2_end 94 = .ok (.iload_n 3, 1) := by decide +kernel
theorem dX2_end_95 : decode cX2_end 95 = .ok (.ifCond .eq 11, 3) := by decide +kernel
theorem dX2_end_98 : decode cX2_end 98 = .ok (.iload 5, 2) := by decide +kernel
theorem dX2_end_100 : decode cX2_end 100 = .ok (.iload 4, 2) := by decide +kernel
theorem dX2_end_102 : decode cX2_end 102 = .ok (.iadd, 1) := by decide +kernel
theorem dX2_end_103 : decode cX2_end 103 = .ok (.goto 8, 3) := by decide +kernel
theorem dX2_end_106 : decode cX2_end 106 = .ok (.iload 5, 2) := by decide +kernel
theorem dX2_end_108 : decode cX2_end 108 = .ok (.iload 4, 2) := by decide +kernel
theorem dX2_end_110 : decode cX2_end 110 = .ok (.isub, 1) := by decide +kernel
theorem dX2_end_111 : decode cX2_end 111 = .ok (.ireturn, 1) := by decide +kernel
set_option maxRecDepth 20000 in
theorem ggX2_hullEnd_X2_end : GoodIn wsX2_hullEnd wsX2_end := goodIn_r _ [7, 8, 9, 10, 11, 12, 1, 13, 14, 15, 16, 17, 18, 19, 20, 21, 22, 23, 24, 25, 26, 27] (by decide +kernel) (by decide +kernel)
set_option maxRecDepth 20000 in
theorem gX2_hullEnd_X2_end : GoodIn wsX2_hullEnd (wsV RX2 86 RX2 yX2_end wsX2_end) := goodIn_app (goodIn_of _ (by decide +kernel)) ggX2_hullEnd_X2_end
theorem dX2_hullEnd_0 : decode cX2_hullEnd 0 = .ok (.aload_n 0, 1) := by decide +kernel
theorem dX2_hullEnd_1 : decode cX2_hullEnd 1 = .ok (.iload_n 1, 1) := by decide +kernel
theorem dX2_hullEnd_2 : decode cX2_hullEnd 2 = .ok (.iload_n 2, 1) := by decide +kernel
theorem dX2_hullEnd_3 : decode cX2_hullEnd 3 = .ok (.iload_n 3, 1) := by decide +kernel
theorem dX2_hullEnd_4 : decode cX2_hullEnd 4 = .ok (.iload 4, 2) := by decide +kernel
theorem dX2_hullEnd_6 : decode cX2_hullEnd 6 = .ok (.invokevirtual 86, 3) := by decide +kernel
theorem dX2_hullEnd_9 : decode cX2_hullEnd 9 = .ok (.istore 5, 2) := by decide +kernel
theorem dX2_hullEnd_11 : decode cX2_hullEnd 11 = .ok (.aload_n 0, 1) := by decide +kernel
theorem dX2_hullEnd_12 : decode cX2_hullEnd 12 = .ok (.getfield 20, 3) := by decide +kernel
theorem dX2_hullEnd_15 : decode cX2_hullEnd 15 = .ok (.iload_n 1, 1) := by decide +kernel
theorem dX2_hullEnd_16 : decode cX2_hullEnd 16 = .ok (.iaload, 1) := by decide +kernel
theorem dX2_hullEnd_17 : decode cX2_hullEnd 17 = .ok (.ifCond .lt 17, 3) := by decide +kernel
theorem dX2_hullEnd_20 : decode cX2_hullEnd 20 = .ok (.aload_n 0, 1) := by decide +kernel
theorem dX2_hullEnd_21 : decode cX2_hullEnd 21 = .ok (.getfield 20, 3) := by decide +kernel
theorem dX2_hullEnd_24 : decode cX2_hullEnd 24 = .ok (.iload_n 1, 1) := by decide +kernel
theorem dX2_hullEnd_25 : decode cX2_hullEnd 25 = .ok (.iaload, 1) := by decide +kernel
theorem dX2_hullEnd_26 : decode cX2_hullEnd 26 = .ok (.iload_n 2, 1) := by decide +kernel
theorem dX2_hullEnd_27 : decode cX2_hullEnd 27 = .ok (.if_icmp .eq 7, 3) := by decide +kernel
theorem dX2_hullEnd_30 : decode cX2_hullEnd 30 = .ok (.iconst 1, 1) := by decide +kernel
theorem dX2_hullEnd_31 : decode cX2_hullEnd 31 = .ok (.goto 4, 3) := by decide +kernel
theorem dX2_hullEnd_34 : decode cX2_hullEnd 34 = .ok (.iconst 0, 1) := by decide +kernel
theorem dX2_hullEnd_35 : decode cX2_hullEnd 35 = .ok (.istore 6, 2) := by decide +kernel
theorem dX2_hullEnd_37 : decode cX2_hullEnd 37 = .ok (.aload_n 0, 1) := by decide +kernel
theorem dX2_hullEnd_38 : decode cX2_hullEnd 38 = .ok (.getfield 23, 3) := by decide +kernel
theorem dX2_hullEnd_41 : decode cX2_hullEnd 41 = .ok (.iload_n 1, 1) := by decide +kernel
theorem dX2_hullEnd_42 : decode cX2_hullEnd 42 = .ok (.iaload, 1) := by decide +kernel
theorem dX2_hullEnd_43 : decode cX2_hullEnd 43 = .ok (.iload 4, 2) := by decide +kernel
theorem dX2_hullEnd_45 : decode cX2_hullEnd 45 = .ok (.iadd, 1) := by decide +kernel
theorem dX2_hullEnd_46 : decode cX2_hullEnd 46 = .ok (.istore 7, 2) := by decide +kernel
theorem dX2_hullEnd_48 : decode cX2_hullEnd 48 = .ok (.iload 6, 2) := by decide +kernel
theorem dX2_hullEnd_50 : decode cX2_hullEnd 50 = .ok (.ifCond .eq 23, 3) := by decide +kernel
theorem dX2_hullEnd_53 : decode cX2_hullEnd 53 = .ok (.iload_n 3, 1) := by decide +kernel
theorem dX2_hullEnd_54 : decode cX2_hullEnd 54 = .ok (.ifCond .eq 11, 3) := by decide +kernel
theorem dX2_hullEnd_57 : decode cX2_hullEnd 57 = .ok (.iload 5, 2) := by decide +kernel
theorem dX2_hullEnd_59 : decode cX2_hullEnd 59 = .ok (.iload 7, 2) := by decide +kernel
theorem dX2_hullEnd_61 : decode cX2_hullEnd 61 = .ok (.iadd, 1) := by decide +kernel
theorem dX2_hullEnd_62 : decode cX2_hullEnd 62 = .ok (.goto 13, 3) := by decide +kernel
theorem dX2_hullEnd_65 : decode cX2_hullEnd 65 = .ok (.iload 5, 2) := by decide +kernel
theorem dX2_hullEnd_67 : decode cX2_hullEnd 67 = .ok (.iload 7, 2) := by decide +kernel
theorem dX2_hullEnd_69 : decode cX2_hullEnd 69 = .ok (.isub, 1) := by decide +kernel
theorem dX2_hullEnd_70 : decode cX2_hullEnd 70 = .ok (.goto 5, 3) := by decide +kernel
theorem dX2_hullEnd_73 : decode cX2_hullEnd 73 = .ok (.iload 5, 2) := by decide +kernel
theorem dX2_hullEnd_75 : decode cX2_hullEnd 75 = .ok (.ireturn, 1) := by decide +kernel
theorem dX2_overlaps_0 : decode cX2_overlaps 0 = .ok (.iload_n 0, 1) := by decide +kernel
theorem dX2_overlaps_1 : decode cX2_overlaps 1 = .ok (.iload_n 3, 1) := by decide +kernel
theorem dX2_overlaps_2 : decode cX2_overlaps 2 = .ok (.if_icmp .ge 12, 3) := by decide +kernel
theorem dX2_overlaps_5 : decode cX2_overlaps 5 = .ok (.iload_n 2, 1) := by decide +kernel
theorem dX2_overlaps_6 : decode cX2_overlaps 6 = .ok (.iload_n 1, 1) := by decide +kernel
theorem dX2_overlaps_7 : decode cX2_overlaps 7 = .ok (.if_icmp .ge 7, 3) := by decide +kernel
theorem dX2_overlaps_10 : decode cX2_overlaps 10 = .ok (.iconst 1, 1) := by decide +kernel
theorem dX2_overlaps_11 : decode cX2_overlaps 11 = .ok (.goto 4, 3) := by decide +kernel
theorem dX2_overlaps_14 : decode cX2_overlaps 14 = .ok (.iconst 0, 1) := by decide +kernel
theorem dX2_overlaps_15 : decode cX2_overlaps 15 = .ok (.ireturn, 1) := by decide +kernel
set_option maxRecDepth 20000 in
theorem ggX2_hullsMeet_X2_hullEnd : GoodIn wsX2_hullsMeet wsX2_hullEnd := goodIn_r _ [5, 6, 7, 8, 9, 10, 4, 11, 12, 13, 14, 15, 16, 20, 21, 22, 23, 24, 25, 26, 27, 28, 29, 30, 31, 32, 33, 34] (by decide +kernel) (by decide +kernel)
set_option maxRecDepth 20000 in
theorem gX2_hullsMeet_X2_hullEnd : GoodIn wsX2_hullsMeet (wsV RX2 90 RX2 yX2_hullEnd wsX2_hullEnd) := goodIn_app (goodIn_of _ (by decide +kernel)) ggX2_hullsMeet_X2_hullEnd
set_option maxRecDepth 20000 in
theorem ggX2_hullsMeet_X2_overlaps : GoodIn wsX2_hullsMeet wsX2_overlaps := goodIn_r _ [19] (by decide +kernel) (by decide +kernel)
set_option maxRecDepth 20000 in
theorem gX2_hullsMeet_X2_overlaps : GoodIn wsX2_hullsMeet (va_wsS RX2 93 yX2_overlaps wsX2_overlaps) := goodIn_app (goodIn_of _ (by decide +kernel)) ggX2_hullsMeet_X2_overlaps
theorem dX2_hullsMeet_0 : decode cX2_hullsMeet 0 = .ok (.iconst 1, 1) := by decide +kernel
theorem dX2_hullsMeet_1 : decode cX2_hullsMeet 1 = .ok (.istore 4, 2) := by decide +kernel
theorem dX2_hullsMeet_3 : decode cX2_hullsMeet 3 = .ok (.iconst 0, 1) := by decide +kernel
theorem dX2_hullsMeet_4 : decode cX2_hullsMeet 4 = .ok (.istore 5, 2) := by decide +kernel
theorem dX2_hullsMeet_6 : decode cX2_hullsMeet 6 = .ok (.iload 5, 2) := by decide +kernel
theorem dX2_hullsMeet_8 : decode cX2_hullsMeet 8 = .ok (.iconst 3, 1) := by decide +kernel
theorem dX2_hullsMeet_9 : decode cX2_hullsMeet 9 = .ok (.if_icmp .ge 63, 3) := by decide +kernel
theorem dX2_hullsMeet_12 : decode cX2_hullsMeet 12 = .ok (.iload 4, 2) := by decide +kernel
theorem dX2_hullsMeet_14 : decode cX2_hullsMeet 14 = .ok (.ifCond .eq 49, 3) := by decide +kernel
theorem dX2_hullsMeet_17 : decode cX2_hullsMeet 17 = .ok (.aload_n 0, 1) := by decide +kernel
theorem dX2_hullsMeet_18 : decode cX2_hullsMeet 18 = .ok (.iload_n 1, 1) := by decide +kernel
theorem dX2_hullsMeet_19 : decode cX2_hullsMeet 19 = .ok (.iload 5, 2) := by decide +kernel
theorem dX2_hullsMeet_21 : decode cX2_hullsMeet 21 = .ok (.iconst 0, 1) := by decide +kernel
theorem dX2_hullsMeet_22 : decode cX2_hullsMeet 22 = .ok (.iload_n 2, 1) := by decide +kernel
theorem dX2_hullsMeet_23 : decode cX2_hullsMeet 23 = .ok (.invokevirtual 90, 3) := by decide +kernel
theorem dX2_hullsMeet_26 : decode cX2_hullsMeet 26 = .ok (.aload_n 0, 1) := by decide +kernel
theorem dX2_hullsMeet_27 : decode cX2_hullsMeet 27 = .ok (.iload_n 1, 1) := by decide +kernel
theorem dX2_hullsMeet_28 : decode cX2_hullsMeet 28 = .ok (.iload 5, 2) := by decide +kernel
theorem dX2_hullsMeet_30 : decode cX2_hullsMeet 30 = .ok (.iconst 1, 1) := by decide +kernel
theorem dX2_hullsMeet_31 : decode cX2_hullsMeet 31 = .ok (.iload_n 2, 1) := by decide +kernel
theorem dX2_hullsMeet_32 : decode cX2_hullsMeet 32 = .ok (.invokevirtual 90, 3) := by decide +kernel
theorem dX2_hullsMeet_35 : decode cX2_hullsMeet 35 = .ok (.aload_n 0, 1) := by decide +kernel
theorem dX2_hullsMeet_36 : decode cX2_hullsMeet 36 = .ok (.iload_n 3, 1) := by decide +kernel
theorem dX2_hullsMeet_37 : decode cX2_hullsMeet 37 = .ok (.iload 5, 2) := by decide +kernel
theorem dX2_hullsMeet_39 : decode cX2_hullsMeet 39 = .ok (.iconst 0, 1) := by decide +kernel
theorem dX2_hullsMeet_40 : decode cX2_hullsMeet 40 = .ok (.iconst 0, 1) := by decide +kernel
theorem dX2_hullsMeet_41 : decode cX2_hullsMeet 41 = .ok (.invokevirtual 90, 3) := by decide +kernel
theorem dX2_hullsMeet_44 : decode cX2_hullsMeet 44 = .ok (.aload_n 0, 1) := by decide +kernel
theorem dX2_hullsMeet_45 : decode cX2_hullsMeet 45 = .ok (.iload_n 3, 1) := by decide +kernel
theorem dX2_hullsMeet_46 : decode cX2_hullsMeet 46 = .ok (.iload 5, 2) := by decide +kernel
theorem dX2_hullsMeet_48 : decode cX2_hullsMeet 48 = .ok (.iconst 1, 1) := by decide +kernel
theorem dX2_hullsMeet_49 : decode cX2_hullsMeet 49 = .ok (.iconst 0, 1) := by decide +kernel
theorem dX2_hullsMeet_50 : decode cX2_hullsMeet 50 = .ok (.invokevirtual 90, 3) := by decide +kernel
theorem dX2_hullsMeet_53 : decode cX2_hullsMeet 53 = .ok (.invokestatic 93, 3) := by decide +kernel
theorem dX2_hullsMeet_56 : decode cX2_hullsMeet 56 = .ok (.ifCond .eq 7, 3) := by decide +kernel
theorem dX2_hullsMeet_59 : decode cX2_hullsMeet 59 = .ok (.iconst 1, 1) := by decide +kernel
theorem dX2_hullsMeet_60 : decode cX2_hullsMeet 60 = .ok (.goto 4, 3) := by decide +kernel
theorem dX2_hullsMeet_63 : decode cX2_hullsMeet 63 = .ok (.iconst 0, 1) := by decide +kernel
theorem dX2_hullsMeet_64 : decode cX2_hullsMeet 64 = .ok (.istore 4, 2) := by decide +kernel
theorem dX2_hullsMeet_66 : decode cX2_hullsMeet 66 = .ok (.iinc 5 1, 3) := by decide +kernel
theorem dX2_hullsMeet_69 : decode cX2_hullsMeet 69 = .ok (.goto (-63), 3) := by decide +kernel
theorem dX2_hullsMeet_72 : decode cX2_hullsMeet 72 = .ok (.iload 4, 2) := by decide +kernel
theorem dX2_hullsMeet_74 : decode cX2_hullsMeet 74 = .ok (.ireturn, 1) := by decide +kernel
theorem dX2_off_0 : decode cX2_off 0 = .ok (.iload_n 0, 1) := by decide +kernel
theorem dX2_off_1 : decode cX2_off 1 = .ok (.iload_n 1, 1) := by decide +kernel
theorem dX2_off_2 : decode cX2_off 2 = .ok (.if_icmp .ge 9, 3) := by decide +kernel
theorem dX2_off_5 : decode cX2_off 5 = .ok (.iload_n 1, 1) := by decide +kernel
theorem dX2_off_6 : decode cX2_off 6 = .ok (.iload_n 0, 1) := by decide +kernel
theorem dX2_off_7 : decode cX2_off 7 = .ok (.isub, 1) := by decide +kernel
theorem dX2_off_8 : decode cX2_off 8 = .ok (.goto 15, 3) := by decide +kernel
theorem dX2_off_11 : decode cX2_off 11 = .ok (.iload_n 0, 1) := by decide +kernel
theorem dX2_off_12 : decode cX2_off 12 = .ok (.iload_n 2, 1) := by decide +kernel
theorem dX2_off_13 : decode cX2_off 13 = .ok (.if_icmp .le 9, 3) := by decide +kernel
theorem dX2_off_16 : decode cX2_off 16 = .ok (.iload_n 0, 1) := by decide +kernel
theorem dX2_off_17 : decode cX2_off 17 = .ok (.iload_n 2, 1) := by decide +kernel
theorem dX2_off_18 : decode cX2_off 18 = .ok (.isub, 1) := by decide +kernel
theorem dX2_off_19 : decode cX2_off 19 = .ok (.goto 4, 3) := by decide +kernel
theorem dX2_off_22 : decode cX2_off 22 = .ok (.iconst 0, 1) := by decide +kernel
theorem dX2_off_23 : decode cX2_off 23 = .ok (.ireturn, 1) := by decide +kernel
set_option maxRecDepth 20000 in
theorem ggX2_tubeAndBox_X2_end : GoodIn wsX2_tubeAndBox wsX2_end := goodIn_r _ [7, 8, 9, 10, 11, 12, 1, 19, 20, 21, 22, 23, 24, 25, 26, 27, 28, 29, 30, 31, 32, 33] (by decide +kernel) (by decide +kernel)
set_option maxRecDepth 20000 in
theorem gX2_tubeAndBox_X2_end : GoodIn wsX2_tubeAndBox (wsV RX2 86 RX2 yX2_end wsX2_end) := goodIn_app (goodIn_of _ (by decide +kernel)) ggX2_tubeAndBox_X2_end
set_option maxRecDepth 20000 in
theorem ggX2_tubeAndBox_X2_overlaps : GoodIn wsX2_tubeAndBox wsX2_overlaps := goodIn_r _ [15] (by decide +kernel) (by decide +kernel)
set_option maxRecDepth 20000 in
theorem gX2_tubeAndBox_X2_overlaps : GoodIn wsX2_tubeAndBox (va_wsS RX2 93 yX2_overlaps wsX2_overlaps) := goodIn_app (goodIn_of _ (by decide +kernel)) ggX2_tubeAndBox_X2_overlaps
set_option maxRecDepth 20000 in
theorem ggX2_tubeAndBox_X2_off : GoodIn wsX2_tubeAndBox wsX2_off := goodIn_r _ [18] (by decide +kernel) (by decide +kernel)
set_option maxRecDepth 20000 in
theorem gX2_tubeAndBox_X2_off : GoodIn wsX2_tubeAndBox (va_wsS RX2 97 yX2_off wsX2_off) := goodIn_app (goodIn_of _ (by decide +kernel)) ggX2_tubeAndBox_X2_off
theorem dX2_tubeAndBox_0 : decode cX2_tubeAndBox 0 = .ok (.aload_n 0, 1) := by decide +kernel
theorem dX2_tubeAndBox_1 : decode cX2_tubeAndBox 1 = .ok (.getfield 20, 3) := by decide +kernel
theorem dX2_tubeAndBox_4 : decode cX2_tubeAndBox 4 = .ok (.iload_n 1, 1) := by decide +kernel
theorem dX2_tubeAndBox_5 : decode cX2_tubeAndBox 5 = .ok (.iaload, 1) := by decide +kernel
theorem dX2_tubeAndBox_6 : decode cX2_tubeAndBox 6 = .ok (.istore 5, 2) := by decide +kernel
theorem dX2_tubeAndBox_8 : decode cX2_tubeAndBox 8 = .ok (.aload_n 0, 1) := by decide +kernel
theorem dX2_tubeAndBox_9 : decode cX2_tubeAndBox 9 = .ok (.iload_n 1, 1) := by decide +kernel
theorem dX2_tubeAndBox_10 : decode cX2_tubeAndBox 10 = .ok (.iload 5, 2) := by decide +kernel
theorem dX2_tubeAndBox_12 : decode cX2_tubeAndBox 12 = .ok (.iconst 0, 1) := by decide +kernel
theorem dX2_tubeAndBox_13 : decode cX2_tubeAndBox 13 = .ok (.iload_n 2, 1) := by decide +kernel
theorem dX2_tubeAndBox_14 : decode cX2_tubeAndBox 14 = .ok (.invokevirtual 86, 3) := by decide +kernel
theorem dX2_tubeAndBox_17 : decode cX2_tubeAndBox 17 = .ok (.aload_n 0, 1) := by decide +kernel
theorem dX2_tubeAndBox_18 : decode cX2_tubeAndBox 18 = .ok (.iload_n 1, 1) := by decide +kernel
theorem dX2_tubeAndBox_19 : decode cX2_tubeAndBox 19 = .ok (.iload 5, 2) := by decide +kernel
theorem dX2_tubeAndBox_21 : decode cX2_tubeAndBox 21 = .ok (.iconst 1, 1) := by decide +kernel
theorem dX2_tubeAndBox_22 : decode cX2_tubeAndBox 22 = .ok (.iload_n 2, 1) := by decide +kernel
theorem dX2_tubeAndBox_23 : decode cX2_tubeAndBox 23 = .ok (.invokevirtual 86, 3) := by decide +kernel
theorem dX2_tubeAndBox_26 : decode cX2_tubeAndBox 26 = .ok (.aload_n 0, 1) := by decide +kernel
theorem dX2_tubeAndBox_27 : decode cX2_tubeAndBox 27 = .ok (.iload_n 3, 1) := by decide +kernel
theorem dX2_tubeAndBox_28 : decode cX2_tubeAndBox 28 = .ok (.iload 5, 2) := by decide +kernel
theorem dX2_tubeAndBox_30 : decode cX2_tubeAndBox 30 = .ok (.iconst 0, 1) := by decide +kernel
theorem dX2_tubeAndBox_31 : decode cX2_tubeAndBox 31 = .ok (.iload 4, 2) := by decide +kernel
theorem dX2_tubeAndBox_33 : decode cX2_tubeAndBox 33 = .ok (.invokevirtual 86, 3) := by decide +kernel
theorem dX2_tubeAndBox_36 : decode cX2_tubeAndBox 36 = .ok (.aload_n 0, 1) := by decide +kernel
theorem dX2_tubeAndBox_37 : decode cX2_tubeAndBox 37 = .ok (.iload_n 3, 1) := by decide +kernel
theorem dX2_tubeAndBox_38 : decode cX2_tubeAndBox 38 = .ok (.iload 5, 2) := by decide +kernel
theorem dX2_tubeAndBox_40 : decode cX2_tubeAndBox 40 = .ok (.iconst 1, 1) := by decide +kernel
theorem dX2_tubeAndBox_41 : decode cX2_tubeAndBox 41 = .ok (.iload 4, 2) := by decide +kernel
theorem dX2_tubeAndBox_43 : decode cX2_tubeAndBox 43 = .ok (.invokevirtual 86, 3) := by decide +kernel
theorem dX2_tubeAndBox_46 : decode cX2_tubeAndBox 46 = .ok (.invokestatic 93, 3) := by decide +kernel
theorem dX2_tubeAndBox_49 : decode cX2_tubeAndBox 49 = .ok (.ifCond .ne 5, 3) := by decide +kernel
theorem dX2_tubeAndBox_52 : decode cX2_tubeAndBox 52 = .ok (.iconst 0, 1) := by decide +kernel
theorem dX2_tubeAndBox_53 : decode cX2_tubeAndBox 53 = .ok (.ireturn, 1) := by decide +kernel
theorem dX2_tubeAndBox_54 : decode cX2_tubeAndBox 54 = .ok (.iconst 0, 1) := by decide +kernel
theorem dX2_tubeAndBox_55 : decode cX2_tubeAndBox 55 = .ok (.istore 6, 2) := by decide +kernel
theorem dX2_tubeAndBox_57 : decode cX2_tubeAndBox 57 = .ok (.iconst 0, 1) := by decide +kernel
theorem dX2_tubeAndBox_58 : decode cX2_tubeAndBox 58 = .ok (.istore 7, 2) := by decide +kernel
theorem dX2_tubeAndBox_60 : decode cX2_tubeAndBox 60 = .ok (.iload 7, 2) := by decide +kernel
theorem dX2_tubeAndBox_62 : decode cX2_tubeAndBox 62 = .ok (.iconst 3, 1) := by decide +kernel
theorem dX2_tubeAndBox_63 : decode cX2_tubeAndBox 63 = .ok (.if_icmp .ge 64, 3) := by decide +kernel
theorem dX2_tubeAndBox_66 : decode cX2_tubeAndBox 66 = .ok (.iload 7, 2) := by decide +kernel
theorem dX2_tubeAndBox_68 : decode cX2_tubeAndBox 68 = .ok (.iload 5, 2) := by decide +kernel
theorem dX2_tubeAndBox_70 : decode cX2_tubeAndBox 70 = .ok (.if_icmp .ne 7, 3) := by decide +kernel
theorem dX2_tubeAndBox_73 : decode cX2_tubeAndBox 73 = .ok (.iconst 0, 1) := by decide +kernel
theorem dX2_tubeAndBox_74 : decode cX2_tubeAndBox 74 = .ok (.goto 35, 3) := by decide +kernel
theorem dX2_tubeAndBox_77 : decode cX2_tubeAndBox 77 = .ok (.aload_n 0, 1) := by decide +kernel
theorem dX2_tubeAndBox_78 : decode cX2_tubeAndBox 78 = .ok (.iload_n 1, 1) := by decide +kernel
theorem dX2_tubeAndBox_79 : decode cX2_tubeAndBox 79 = .ok (.iload 7, 2) := by decide +kernel
theorem dX2_tubeAndBox_81 : decode cX2_tubeAndBox 81 = .ok (.iconst 0, 1) := by decide +kernel
theorem dX2_tubeAndBox_82 : decode cX2_tubeAndBox 82 = .ok (.iconst 0, 1) := by decide +kernel
theorem dX2_tubeAndBox_83 : decode cX2_tubeAndBox 83 = .ok (.invokevirtual 86, 3) := by decide +kernel
theorem dX2_tubeAndBox_86 : decode cX2_tubeAndBox 86 = .ok (.aload_n 0, 1) := by decide +kernel
theorem dX2_tubeAndBox_87 : decode cX2_tubeAndBox 87 = .ok (.iload_n 3, 1) := by decide +kernel
theorem dX2_tubeAndBox_88 : decode cX2_tubeAndBox 88 = .ok (.iload 7, 2) := by decide +kernel
theorem dX2_tubeAndBox_90 : decode cX2_tubeAndBox 90 = .ok (.iconst 0, 1) := by decide +kernel
theorem dX2_tubeAndBox_91 : decode cX2_tubeAndBox 91 = .ok (.iload 4, 2) := by decide +kernel
theorem dX2_tubeAndBox_93 : decode cX2_tubeAndBox 93 = .ok (.invokevirtual 86, 3) := by decide +kernel
theorem dX2_tubeAndBox_96 : decode cX2_tubeAndBox 96 = .ok (.aload_n 0, 1) := by decide +kernel
theorem dX2_tubeAndBox_97 : decode cX2_tubeAndBox 97 = .ok (.iload_n 3, 1) := by decide +kernel
theorem dX2_tubeAndBox_98 : decode cX2_tubeAndBox 98 = .ok (.iload 7, 2) := by decide +kernel
theorem dX2_tubeAndBox_100 : decode cX2_tubeAndBox 100 = .ok (.iconst 1, 1) := by decide +kernel
theorem dX2_tubeAndBox_101 : decode cX2_tubeAndBox 101 = .ok (.iload 4, 2) := by decide +kernel
theorem dX2_tubeAndBox_103 : decode cX2_tubeAndBox 103 = .ok (.invokevirtual 86, 3) := by decide +kernel
theorem dX2_tubeAndBox_106 : decode cX2_tubeAndBox 106 = .ok (.invokestatic 97, 3) := by decide +kernel
theorem dX2_tubeAndBox_109 : decode cX2_tubeAndBox 109 = .ok (.istore 8, 2) := by decide +kernel
theorem dX2_tubeAndBox_111 : decode cX2_tubeAndBox 111 = .ok (.iload 6, 2) := by decide +kernel
theorem dX2_tubeAndBox_113 : decode cX2_tubeAndBox 113 = .ok (.iload 8, 2) := by decide +kernel
theorem dX2_tubeAndBox_115 : decode cX2_tubeAndBox 115 = .ok (.iload 8, 2) := by decide +kernel
theorem dX2_tubeAndBox_117 : decode cX2_tubeAndBox 117 = .ok (.imul, 1) := by decide +kernel
theorem dX2_tubeAndBox_118 : decode cX2_tubeAndBox 118 = .ok (.iadd, 1) := by decide +kernel
theorem dX2_tubeAndBox_119 : decode cX2_tubeAndBox 119 = .ok (.istore 6, 2) := by decide +kernel
theorem dX2_tubeAndBox_121 : decode cX2_tubeAndBox 121 = .ok (.iinc 7 1, 3) := by decide +kernel
theorem dX2_tubeAndBox_124 : decode cX2_tubeAndBox 124 = .ok (.goto (-64), 3) := by decide +kernel
theorem dX2_tubeAndBox_127 : decode cX2_tubeAndBox 127 = .ok (.aload_n 0, 1) := by decide +kernel
theorem dX2_tubeAndBox_128 : decode cX2_tubeAndBox 128 = .ok (.getfield 23, 3) := by decide +kernel
theorem dX2_tubeAndBox_131 : decode cX2_tubeAndBox 131 = .ok (.iload_n 1, 1) := by decide +kernel
theorem dX2_tubeAndBox_132 : decode cX2_tubeAndBox 132 = .ok (.iaload, 1) := by decide +kernel
theorem dX2_tubeAndBox_133 : decode cX2_tubeAndBox 133 = .ok (.iload_n 2, 1) := by decide +kernel
theorem dX2_tubeAndBox_134 : decode cX2_tubeAndBox 134 = .ok (.iadd, 1) := by decide +kernel
theorem dX2_tubeAndBox_135 : decode cX2_tubeAndBox 135 = .ok (.istore 7, 2) := by decide +kernel
theorem dX2_tubeAndBox_137 : decode cX2_tubeAndBox 137 = .ok (.iload 6, 2) := by decide +kernel
theorem dX2_tubeAndBox_139 : decode cX2_tubeAndBox 139 = .ok (.iload 7, 2) := by decide +kernel
theorem dX2_tubeAndBox_141 : decode cX2_tubeAndBox 141 = .ok (.iload 7, 2) := by decide +kernel
theorem dX2_tubeAndBox_143 : decode cX2_tubeAndBox 143 = .ok (.imul, 1) := by decide +kernel
theorem dX2_tubeAndBox_144 : decode cX2_tubeAndBox 144 = .ok (.if_icmp .ge 7, 3) := by decide +kernel
theorem dX2_tubeAndBox_147 : decode cX2_tubeAndBox 147 = .ok (.iconst 1, 1) := by decide +kernel
theorem dX2_tubeAndBox_148 : decode cX2_tubeAndBox 148 = .ok (.goto 4, 3) := by decide +kernel
theorem dX2_tubeAndBox_151 : decode cX2_tubeAndBox 151 = .ok (.iconst 0, 1) := by decide +kernel
theorem dX2_tubeAndBox_152 : decode cX2_tubeAndBox 152 = .ok (.ireturn, 1) := by decide +kernel
set_option maxRecDepth 20000 in
theorem ggX2_meets_X2_hullsMeet : GoodIn wsX2_meets wsX2_hullsMeet := goodIn_r _ [7, 8, 9, 10, 6, 11, 1, 2, 12, 13, 14, 15, 16, 17, 18, 19, 20, 21, 22, 23, 31, 32, 33, 34, 35, 36, 37, 38, 39, 40, 41, 42, 43, 44, 45] (by decide +kernel) (by decide +kernel)
set_option maxRecDepth 20000 in
theorem gX2_meets_X2_hullsMeet : GoodIn wsX2_meets (wsV RX2 100 RX2 yX2_hullsMeet wsX2_hullsMeet) := goodIn_app (goodIn_of _ (by decide +kernel)) ggX2_meets_X2_hullsMeet
set_option maxRecDepth 20000 in
theorem ggX2_meets_X2_tubeAndBox : GoodIn wsX2_meets wsX2_tubeAndBox := goodIn_r _ [27, 1, 2, 12, 13, 14, 6, 15, 16, 17, 18, 19, 20, 21, 22, 23, 28, 29, 30, 31, 32, 33, 34, 35, 36, 37, 38, 39, 40, 41, 42, 43, 44, 45] (by decide +kernel) (by decide +kernel)
set_option maxRecDepth 20000 in
theorem gX2_meets_X2_tubeAndBox : GoodIn wsX2_meets (wsV RX2 103 RX2 yX2_tubeAndBox wsX2_tubeAndBox) := goodIn_app (goodIn_of _ (by decide +kernel)) ggX2_meets_X2_tubeAndBox
set_option maxRecDepth 20000 in
theorem ggX2_meets_X2_end : GoodIn wsX2_meets wsX2_end := goodIn_r _ [15, 16, 17, 18, 19, 20, 1, 31, 32, 33, 34, 35, 36, 37, 38, 39, 40, 41, 42, 43, 44, 45] (by decide +kernel) (by decide +kernel)
set_option maxRecDepth 20000 in
theorem gX2_meets_X2_end : GoodIn wsX2_meets (wsV RX2 86 RX2 yX2_end wsX2_end) := goodIn_app (goodIn_of _ (by decide +kernel)) ggX2_meets_X2_end
set_option maxRecDepth 20000 in
theorem ggX2_meets_X2_overlaps : GoodIn wsX2_meets wsX2_overlaps := goodIn_r _ [23] (by decide +kernel) (by decide +kernel)
set_option maxRecDepth 20000 in
theorem gX2_meets_X2_overlaps : GoodIn wsX2_meets (va_wsS RX2 93 yX2_overlaps wsX2_overlaps) := goodIn_app (goodIn_of _ (by decide +kernel)) ggX2_meets_X2_overlaps
theorem dX2_meets_0 : decode cX2_meets 0 = .ok (.aload_n 0, 1) := by decide +kernel
theorem dX2_meets_1 : decode cX2_meets 1 = .ok (.getfield 20, 3) := by decide +kernel
theorem dX2_meets_4 : decode cX2_meets 4 = .ok (.iload_n 1, 1) := by decide +kernel
theorem dX2_meets_5 : decode cX2_meets 5 = .ok (.iaload, 1) := by decide +kernel
theorem dX2_meets_6 : decode cX2_meets 6 = .ok (.ifCond .ge 20, 3) := by decide +kernel
theorem dX2_meets_9 : decode cX2_meets 9 = .ok (.aload_n 0, 1) := by decide +kernel
theorem dX2_meets_10 : decode cX2_meets 10 = .ok (.getfield 20, 3) := by decide +kernel
theorem dX2_meets_13 : decode cX2_meets 13 = .ok (.iload_n 3, 1) := by decide +kernel
theorem dX2_meets_14 : decode cX2_meets 14 = .ok (.iaload, 1) := by decide +kernel
theorem dX2_meets_15 : decode cX2_meets 15 = .ok (.ifCond .ge 11, 3) := by decide +kernel
theorem dX2_meets_18 : decode cX2_meets 18 = .ok (.aload_n 0, 1) := by decide +kernel
theorem dX2_meets_19 : decode cX2_meets 19 = .ok (.iload_n 1, 1) := by decide +kernel
theorem dX2_meets_20 : decode cX2_meets 20 = .ok (.iload_n 2, 1) := by decide +kernel
theorem dX2_meets_21 : decode cX2_meets 21 = .ok (.iload_n 3, 1) := by decide +kernel
theorem dX2_meets_22 : decode cX2_meets 22 = .ok (.invokevirtual 100, 3) := by decide +kernel
theorem dX2_meets_25 : decode cX2_meets 25 = .ok (.ireturn, 1) := by decide +kernel
theorem dX2_meets_26 : decode cX2_meets 26 = .ok (.aload_n 0, 1) := by decide +kernel
theorem dX2_meets_27 : decode cX2_meets 27 = .ok (.getfield 20, 3) := by decide +kernel
theorem dX2_meets_30 : decode cX2_meets 30 = .ok (.iload_n 3, 1) := by decide +kernel
theorem dX2_meets_31 : decode cX2_meets 31 = .ok (.iaload, 1) := by decide +kernel
theorem dX2_meets_32 : decode cX2_meets 32 = .ok (.ifCond .ge 12, 3) := by decide +kernel
theorem dX2_meets_35 : decode cX2_meets 35 = .ok (.aload_n 0, 1) := by decide +kernel
theorem dX2_meets_36 : decode cX2_meets 36 = .ok (.iload_n 1, 1) := by decide +kernel
theorem dX2_meets_37 : decode cX2_meets 37 = .ok (.iload_n 2, 1) := by decide +kernel
theorem dX2_meets_38 : decode cX2_meets 38 = .ok (.iload_n 3, 1) := by decide +kernel
theorem dX2_meets_39 : decode cX2_meets 39 = .ok (.iconst 0, 1) := by decide +kernel
theorem dX2_meets_40 : decode cX2_meets 40 = .ok (.invokevirtual 103, 3) := by decide +kernel
theorem dX2_meets_43 : decode cX2_meets 43 = .ok (.ireturn, 1) := by decide +kernel
theorem dX2_meets_44 : decode cX2_meets 44 = .ok (.aload_n 0, 1) := by decide +kernel
theorem dX2_meets_45 : decode cX2_meets 45 = .ok (.getfield 20, 3) := by decide +kernel
theorem dX2_meets_48 : decode cX2_meets 48 = .ok (.iload_n 1, 1) := by decide +kernel
theorem dX2_meets_49 : decode cX2_meets 49 = .ok (.iaload, 1) := by decide +kernel
theorem dX2_meets_50 : decode cX2_meets 50 = .ok (.ifCond .ge 12, 3) := by decide +kernel
theorem dX2_meets_53 : decode cX2_meets 53 = .ok (.aload_n 0, 1) := by decide +kernel
theorem dX2_meets_54 : decode cX2_meets 54 = .ok (.iload_n 3, 1) := by decide +kernel
theorem dX2_meets_55 : decode cX2_meets 55 = .ok (.iconst 0, 1) := by decide +kernel
theorem dX2_meets_56 : decode cX2_meets 56 = .ok (.iload_n 1, 1) := by decide +kernel
theorem dX2_meets_57 : decode cX2_meets 57 = .ok (.iload_n 2, 1) := by decide +kernel
theorem dX2_meets_58 : decode cX2_meets 58 = .ok (.invokevirtual 103, 3) := by decide +kernel
theorem dX2_meets_61 : decode cX2_meets 61 = .ok (.ireturn, 1) := by decide +kernel
theorem dX2_meets_62 : decode cX2_meets 62 = .ok (.aload_n 0, 1) := by decide +kernel
theorem dX2_meets_63 : decode cX2_meets 63 = .ok (.getfield 20, 3) := by decide +kernel
theorem dX2_meets_66 : decode cX2_meets 66 = .ok (.iload_n 1, 1) := by decide +kernel
theorem dX2_meets_67 : decode cX2_meets 67 = .ok (.iaload, 1) := by decide +kernel
theorem dX2_meets_68 : decode cX2_meets 68 = .ok (.aload_n 0, 1) := by decide +kernel
theorem dX2_meets_69 : decode cX2_meets 69 = .ok (.getfield 20, 3) := by decide +kernel
theorem dX2_meets_72 : decode cX2_meets 72 = .ok (.iload_n 3, 1) := by decide +kernel
theorem dX2_meets_73 : decode cX2_meets 73 = .ok (.iaload, 1) := by decide +kernel
theorem dX2_meets_74 : decode cX2_meets 74 = .ok (.if_icmp .eq 11, 3) := by decide +kernel
theorem dX2_meets_77 : decode cX2_meets 77 = .ok (.aload_n 0, 1) := by decide +kernel
theorem dX2_meets_78 : decode cX2_meets 78 = .ok (.iload_n 1, 1) := by decide +kernel
theorem dX2_meets_79 : decode cX2_meets 79 = .ok (.iload_n 2, 1) := by decide +kernel
theorem dX2_meets_80 : decode cX2_meets 80 = .ok (.iload_n 3, 1) := by decide +kernel
theorem dX2_meets_81 : decode cX2_meets 81 = .ok (.invokevirtual 100, 3) := by decide +kernel
theorem dX2_meets_84 : decode cX2_meets 84 = .ok (.ireturn, 1) := by decide +kernel
theorem dX2_meets_85 : decode cX2_meets 85 = .ok (.aload_n 0, 1) := by decide +kernel
theorem dX2_meets_86 : decode cX2_meets 86 = .ok (.getfield 20, 3) := by decide +kernel
theorem dX2_meets_89 : decode cX2_meets 89 = .ok (.iload_n 1, 1) := by decide +kernel
theorem dX2_meets_90 : decode cX2_meets 90 = .ok (.iaload, 1) := by decide +kernel
theorem dX2_meets_91 : decode cX2_meets 91 = .ok (.istore 4, 2) := by decide +kernel
theorem dX2_meets_93 : decode cX2_meets 93 = .ok (.iconst 0, 1) := by decide +kernel
theorem dX2_meets_94 : decode cX2_meets 94 = .ok (.istore 5, 2) := by decide +kernel
theorem dX2_meets_96 : decode cX2_meets 96 = .ok (.iconst 0, 1) := by decide +kernel
theorem dX2_meets_97 : decode cX2_meets 97 = .ok (.istore 6, 2) := by decide +kernel
theorem dX2_meets_99 : decode cX2_meets 99 = .ok (.iload 6, 2) := by decide +kernel
theorem dX2_meets_101 : decode cX2_meets 101 = .ok (.iconst 3, 1) := by decide +kernel
theorem dX2_meets_102 : decode cX2_meets 102 = .ok (.if_icmp .ge 51, 3) := by decide +kernel
theorem dX2_meets_105 : decode cX2_meets 105 = .ok (.iload 6, 2) := by decide +kernel
theorem dX2_meets_107 : decode cX2_meets 107 = .ok (.iload 4, 2) := by decide +kernel
theorem dX2_meets_109 : decode cX2_meets 109 = .ok (.if_icmp .ne 7, 3) := by decide +kernel
theorem dX2_meets_112 : decode cX2_meets 112 = .ok (.iconst 0, 1) := by decide +kernel
theorem dX2_meets_113 : decode cX2_meets 113 = .ok (.goto 22, 3) := by decide +kernel
theorem dX2_meets_116 : decode cX2_meets 116 = .ok (.aload_n 0, 1) := by decide +kernel
theorem dX2_meets_117 : decode cX2_meets 117 = .ok (.iload_n 1, 1) := by decide +kernel
theorem dX2_meets_118 : decode cX2_meets 118 = .ok (.iload 6, 2) := by decide +kernel
theorem dX2_meets_120 : decode cX2_meets 120 = .ok (.iconst 0, 1) := by decide +kernel
theorem dX2_meets_121 : decode cX2_meets 121 = .ok (.iconst 0, 1) := by decide +kernel
theorem dX2_meets_122 : decode cX2_meets 122 = .ok (.invokevirtual 86, 3) := by decide +kernel
theorem dX2_meets_125 : decode cX2_meets 125 = .ok (.aload_n 0, 1) := by decide +kernel
theorem dX2_meets_126 : decode cX2_meets 126 = .ok (.iload_n 3, 1) := by decide +kernel
theorem dX2_meets_127 : decode cX2_meets 127 = .ok (.iload 6, 2) := by decide +kernel
theorem dX2_meets_129 : decode cX2_meets 129 = .ok (.iconst 0, 1) := by decide +kernel
theorem dX2_meets_130 : decode cX2_meets 130 = .ok (.iconst 0, 1) := by decide +kernel
theorem dX2_meets_131 : decode cX2_meets 131 = .ok (.invokevirtual 86, 3) := by decide +kernel
theorem dX2_meets_134 : decode cX2_meets 134 = .ok (.isub, 1) := by decide +kernel
theorem dX2_meets_135 : decode cX2_meets 135 = .ok (.istore 7, 2) := by decide +kernel
theorem dX2_meets_137 : decode cX2_meets 137 = .ok (.iload 5, 2) := by decide +kernel
theorem dX2_meets_139 : decode cX2_meets 139 = .ok (.iload 7, 2) := by decide +kernel
theorem dX2_meets_141 : decode cX2_meets 141 = .ok (.iload 7, 2) := by decide +kernel
theorem dX2_meets_143 : decode cX2_meets 143 = .ok (.imul, 1) := by decide +kernel
theorem dX2_meets_144 : decode cX2_meets 144 = .ok (.iadd, 1) := by decide +kernel
theorem dX2_meets_145 : decode cX2_meets 145 = .ok (.istore 5, 2) := by decide +kernel
theorem dX2_meets_147 : decode cX2_meets 147 = .ok (.iinc 6 1, 3) := by decide +kernel
theorem dX2_meets_150 : decode cX2_meets 150 = .ok (.goto (-51), 3) := by decide +kernel
theorem dX2_meets_153 : decode cX2_meets 153 = .ok (.aload_n 0, 1) := by decide +kernel
theorem dX2_meets_154 : decode cX2_meets 154 = .ok (.getfield 23, 3) := by decide +kernel
theorem dX2_meets_157 : decode cX2_meets 157 = .ok (.iload_n 1, 1) := by decide +kernel
theorem dX2_meets_158 : decode cX2_meets 158 = .ok (.iaload, 1) := by decide +kernel
theorem dX2_meets_159 : decode cX2_meets 159 = .ok (.iload_n 2, 1) := by decide +kernel
theorem dX2_meets_160 : decode cX2_meets 160 = .ok (.iadd, 1) := by decide +kernel
theorem dX2_meets_161 : decode cX2_meets 161 = .ok (.aload_n 0, 1) := by decide +kernel
theorem dX2_meets_162 : decode cX2_meets 162 = .ok (.getfield 23, 3) := by decide +kernel
theorem dX2_meets_165 : decode cX2_meets 165 = .ok (.iload_n 3, 1) := by decide +kernel
theorem dX2_meets_166 : decode cX2_meets 166 = .ok (.iaload, 1) := by decide +kernel
theorem dX2_meets_167 : decode cX2_meets 167 = .ok (.iadd, 1) := by decide +kernel
theorem dX2_meets_168 : decode cX2_meets 168 = .ok (.istore 6, 2) := by decide +kernel
theorem dX2_meets_170 : decode cX2_meets 170 = .ok (.aload_n 0, 1) := by decide +kernel
theorem dX2_meets_171 : decode cX2_meets 171 = .ok (.iload_n 1, 1) := by decide +kernel
theorem dX2_meets_172 : decode cX2_meets 172 = .ok (.iload 4, 2) := by decide +kernel
theorem dX2_meets_174 : decode cX2_meets 174 = .ok (.iconst 0, 1) := by decide +kernel
theorem dX2_meets_175 : decode cX2_meets 175 = .ok (.iload_n 2, 1) := by decide +kernel
theorem dX2_meets_176 : decode cX2_meets 176 = .ok (.invokevirtual 86, 3) := by decide +kernel
theorem dX2_meets_179 : decode cX2_meets 179 = .ok (.aload_n 0, 1) := by decide +kernel
theorem dX2_meets_180 : decode cX2_meets 180 = .ok (.iload_n 1, 1) := by decide +kernel
theorem dX2_meets_181 : decode cX2_meets 181 = .ok (.iload 4, 2) := by decide +kernel
theorem dX2_meets_183 : decode cX2_meets 183 = .ok (.iconst 1, 1) := by decide +kernel
theorem dX2_meets_184 : decode cX2_meets 184 = .ok (.iload_n 2, 1) := by decide +kernel
theorem dX2_meets_185 : decode cX2_meets 185 = .ok (.invokevirtual 86, 3) := by decide +kernel
theorem dX2_meets_188 : decode cX2_meets 188 = .ok (.aload_n 0, 1) := by decide +kernel
theorem dX2_meets_189 : decode cX2_meets 189 = .ok (.iload_n 3, 1) := by decide +kernel
theorem dX2_meets_190 : decode cX2_meets 190 = .ok (.iload 4, 2) := by decide +kernel
theorem dX2_meets_192 : decode cX2_meets 192 = .ok (.iconst 0, 1) := by decide +kernel
theorem dX2_meets_193 : decode cX2_meets 193 = .ok (.iconst 0, 1) := by decide +kernel
theorem dX2_meets_194 : decode cX2_meets 194 = .ok (.invokevirtual 86, 3) := by decide +kernel
theorem dX2_meets_197 : decode cX2_meets 197 = .ok (.aload_n 0, 1) := by decide +kernel
theorem dX2_meets_198 : decode cX2_meets 198 = .ok (.iload_n 3, 1) := by decide +kernel
theorem dX2_meets_199 : decode cX2_meets 199 = .ok (.iload 4, 2) := by decide +kernel
theorem dX2_meets_201 : decode cX2_meets 201 = .ok (.iconst 1, 1) := by decide +kernel
theorem dX2_meets_202 : decode cX2_meets 202 = .ok (.iconst 0, 1) := by decide +kernel
theorem dX2_meets_203 : decode cX2_meets 203 = .ok (.invokevirtual 86, 3) := by decide +kernel
theorem dX2_meets_206 : decode cX2_meets 206 = .ok (.invokestatic 93, 3) := by decide +kernel
theorem dX2_meets_209 : decode cX2_meets 209 = .ok (.ifCond .eq 17, 3) := by decide +kernel
theorem dX2_meets_212 : decode cX2_meets 212 = .ok (.iload 5, 2) := by decide +kernel
theorem dX2_meets_214 : decode cX2_meets 214 = .ok (.iload 6, 2) := by decide +kernel
theorem dX2_meets_216 : decode cX2_meets 216 = .ok (.iload 6, 2) := by decide +kernel
theorem dX2_meets_218 : decode cX2_meets 218 = .ok (.imul, 1) := by decide +kernel
theorem dX2_meets_219 : decode cX2_meets 219 = .ok (.if_icmp .ge 7, 3) := by decide +kernel
theorem dX2_meets_222 : decode cX2_meets 222 = .ok (.iconst 1, 1) := by decide +kernel
theorem dX2_meets_223 : decode cX2_meets 223 = .ok (.goto 4, 3) := by decide +kernel
theorem dX2_meets_226 : decode cX2_meets 226 = .ok (.iconst 0, 1) := by decide +kernel
theorem dX2_meets_227 : decode cX2_meets 227 = .ok (.ireturn, 1) := by decide +kernel
set_option maxRecDepth 20000 in
theorem ggX2_stateOf_X2_meets : GoodIn wsX2_stateOf wsX2_meets := goodIn_r _ [8, 9, 10, 11, 12, 13, 7, 14, 15, 16, 17, 18, 19, 20, 21, 22, 23, 24, 25, 26, 27, 28, 29, 30, 31, 32, 33, 34, 35, 36, 37, 38, 39, 40, 41, 42, 43, 44, 45, 46, 47, 48, 49, 50, 51, 52] (by decide +kernel) (by decide +kernel)
set_option maxRecDepth 20000 in
theorem gX2_stateOf_X2_meets : GoodIn wsX2_stateOf (wsV RX2 106 RX2 yX2_meets wsX2_meets) := goodIn_app (goodIn_of _ (by decide +kernel)) ggX2_stateOf_X2_meets
theorem dX2_stateOf_0 : decode cX2_stateOf 0 = .ok (.aload_n 0, 1) := by decide +kernel
theorem dX2_stateOf_1 : decode cX2_stateOf 1 = .ok (.getfield 32, 3) := by decide +kernel
theorem dX2_stateOf_4 : decode cX2_stateOf 4 = .ok (.bipush 8, 2) := by decide +kernel
theorem dX2_stateOf_6 : decode cX2_stateOf 6 = .ok (.aload_n 0, 1) := by decide +kernel
theorem dX2_stateOf_7 : decode cX2_stateOf 7 = .ok (.getfield 13, 3) := by decide +kernel
theorem dX2_stateOf_10 : decode cX2_stateOf 10 = .ok (.iload_n 1, 1) := by decide +kernel
theorem dX2_stateOf_11 : decode cX2_stateOf 11 = .ok (.iaload, 1) := by decide +kernel
theorem dX2_stateOf_12 : decode cX2_stateOf 12 = .ok (.imul, 1) := by decide +kernel
theorem dX2_stateOf_13 : decode cX2_stateOf 13 = .ok (.aload_n 0, 1) := by decide +kernel
theorem dX2_stateOf_14 : decode cX2_stateOf 14 = .ok (.getfield 13, 3) := by decide +kernel
theorem dX2_stateOf_17 : decode cX2_stateOf 17 = .ok (.iload_n 2, 1) := by decide +kernel
theorem dX2_stateOf_18 : decode cX2_stateOf 18 = .ok (.iaload, 1) := by decide +kernel
theorem dX2_stateOf_19 : decode cX2_stateOf 19 = .ok (.iadd, 1) := by decide +kernel
theorem dX2_stateOf_20 : decode cX2_stateOf 20 = .ok (.baload, 1) := by decide +kernel
theorem dX2_stateOf_21 : decode cX2_stateOf 21 = .ok (.ifCond .eq 5, 3) := by decide +kernel
theorem dX2_stateOf_24 : decode cX2_stateOf 24 = .ok (.iconst 0, 1) := by decide +kernel
theorem dX2_stateOf_25 : decode cX2_stateOf 25 = .ok (.ireturn, 1) := by decide +kernel
theorem dX2_stateOf_26 : decode cX2_stateOf 26 = .ok (.aload_n 0, 1) := by decide +kernel
theorem dX2_stateOf_27 : decode cX2_stateOf 27 = .ok (.iload_n 1, 1) := by decide +kernel
theorem dX2_stateOf_28 : decode cX2_stateOf 28 = .ok (.iconst 0, 1) := by decide +kernel
theorem dX2_stateOf_29 : decode cX2_stateOf 29 = .ok (.iload_n 2, 1) := by decide +kernel
theorem dX2_stateOf_30 : decode cX2_stateOf 30 = .ok (.invokevirtual 106, 3) := by decide +kernel
theorem dX2_stateOf_33 : decode cX2_stateOf 33 = .ok (.ifCond .eq 7, 3) := by decide +kernel
theorem dX2_stateOf_36 : decode cX2_stateOf 36 = .ok (.iconst 2, 1) := by decide +kernel
theorem dX2_stateOf_37 : decode cX2_stateOf 37 = .ok (.goto 38, 3) := by decide +kernel
theorem dX2_stateOf_40 : decode cX2_stateOf 40 = .ok (.aload_n 0, 1) := by decide +kernel
theorem dX2_stateOf_41 : decode cX2_stateOf 41 = .ok (.iload_n 1, 1) := by decide +kernel
theorem dX2_stateOf_42 : decode cX2_stateOf 42 = .ok (.aload_n 0, 1) := by decide +kernel
theorem dX2_stateOf_43 : decode cX2_stateOf 43 = .ok (.getfield 17, 3) := by decide +kernel
theorem dX2_stateOf_46 : decode cX2_stateOf 46 = .ok (.iload_n 1, 1) := by decide +kernel
theorem dX2_stateOf_47 : decode cX2_stateOf 47 = .ok (.iaload, 1) := by decide +kernel
theorem dX2_stateOf_48 : decode cX2_stateOf 48 = .ok (.iload_n 2, 1) := by decide +kernel
theorem dX2_stateOf_49 : decode cX2_stateOf 49 = .ok (.invokevirtual 106, 3) := by decide +kernel
theorem dX2_stateOf_52 : decode cX2_stateOf 52 = .ok (.ifCond .ne 18, 3) := by decide +kernel
theorem dX2_stateOf_55 : decode cX2_stateOf 55 = .ok (.aload_n 0, 1) := by decide +kernel
theorem dX2_stateOf_56 : decode cX2_stateOf 56 = .ok (.iload_n 2, 1) := by decide +kernel
theorem dX2_stateOf_57 : decode cX2_stateOf 57 = .ok (.aload_n 0, 1) := by decide +kernel
theorem dX2_stateOf_58 : decode cX2_stateOf 58 = .ok (.getfield 17, 3) := by decide +kernel
theorem dX2_stateOf_61 : decode cX2_stateOf 61 = .ok (.iload_n 2, 1) := by decide +kernel
theorem dX2_stateOf_62 : decode cX2_stateOf 62 = .ok (.iaload, 1) := by decide +kernel
theorem dX2_stateOf_63 : decode cX2_stateOf 63 = .ok (.iload_n 1, 1) := by decide +kernel
theorem dX2_stateOf_64 : decode cX2_stateOf 64 = .ok (.invokevirtual 106, 3) := by decide +kernel
theorem dX2_stateOf_67 : decode cX2_stateOf 67 = .ok (.ifCond .eq 7, 3) := by decide +kernel
theorem dX2_stateOf_70 : decode cX2_stateOf 70 = .ok (.iconst 1, 1) := by decide +kernel
theorem dX2_stateOf_71 : decode cX2_stateOf 71 = .ok (.goto 4, 3) := by decide +kernel
theorem dX2_stateOf_74 : decode cX2_stateOf 74 = .ok (.iconst 0, 1) := by decide +kernel
theorem dX2_stateOf_75 : decode cX2_stateOf 75 = .ok (.ireturn, 1) := by decide +kernel
set_option maxRecDepth 20000 in
theorem ggX2_pair_X2_isPart : GoodIn wsX2_pair wsX2_isPart := goodIn_r _ [6, 7, 8, 9, 10, 5, 11, 52, 53, 54, 55, 56, 57, 58, 59, 60, 61, 62, 63, 64, 65, 66] (by decide +kernel) (by decide +kernel)
set_option maxRecDepth 20000 in
theorem gX2_pair_X2_isPart : GoodIn wsX2_pair (wsV RX2 74 RX2 yX2_isPart wsX2_isPart) := goodIn_app (goodIn_of _ (by decide +kernel)) ggX2_pair_X2_isPart
set_option maxRecDepth 20000 in
theorem ggX2_pair_X2_stateOf : GoodIn wsX2_pair wsX2_stateOf := goodIn_r _ [15, 16, 17, 18, 19, 20, 21, 5, 22, 23, 24, 25, 26, 27, 28, 29, 30, 31, 32, 33, 34, 35, 36, 37, 38, 39, 40, 41, 42, 43, 44, 45, 46, 47, 48, 49, 50, 51, 52, 53, 54, 55, 56, 57, 58, 59, 60, 61, 62, 63, 64, 65, 66] (by decide +kernel) (by decide +kernel)
set_option maxRecDepth 20000 in
theorem gX2_pair_X2_stateOf : GoodIn wsX2_pair (wsV RX2 109 RX2 yX2_stateOf wsX2_stateOf) := goodIn_app (goodIn_of _ (by decide +kernel)) ggX2_pair_X2_stateOf
theorem dX2_pair_0 : decode cX2_pair 0 = .ok (.aload_n 0, 1) := by decide +kernel
theorem dX2_pair_1 : decode cX2_pair 1 = .ok (.aload_n 0, 1) := by decide +kernel
theorem dX2_pair_2 : decode cX2_pair 2 = .ok (.iload_n 1, 1) := by decide +kernel
theorem dX2_pair_3 : decode cX2_pair 3 = .ok (.invokevirtual 74, 3) := by decide +kernel
theorem dX2_pair_6 : decode cX2_pair 6 = .ok (.ifCond .eq 16, 3) := by decide +kernel
theorem dX2_pair_9 : decode cX2_pair 9 = .ok (.aload_n 0, 1) := by decide +kernel
theorem dX2_pair_10 : decode cX2_pair 10 = .ok (.iload_n 2, 1) := by decide +kernel
theorem dX2_pair_11 : decode cX2_pair 11 = .ok (.invokevirtual 74, 3) := by decide +kernel
theorem dX2_pair_14 : decode cX2_pair 14 = .ok (.ifCond .eq 8, 3) := by decide +kernel
theorem dX2_pair_17 : decode cX2_pair 17 = .ok (.iload_n 1, 1) := by decide +kernel
theorem dX2_pair_18 : decode cX2_pair 18 = .ok (.iload_n 2, 1) := by decide +kernel
theorem dX2_pair_19 : decode cX2_pair 19 = .ok (.if_icmp .ne 7, 3) := by decide +kernel
theorem dX2_pair_22 : decode cX2_pair 22 = .ok (.iconst 1, 1) := by decide +kernel
theorem dX2_pair_23 : decode cX2_pair 23 = .ok (.goto 4, 3) := by decide +kernel
theorem dX2_pair_26 : decode cX2_pair 26 = .ok (.iconst 0, 1) := by decide +kernel
theorem dX2_pair_27 : decode cX2_pair 27 = .ok (.putfield 42, 3) := by decide +kernel
theorem dX2_pair_30 : decode cX2_pair 30 = .ok (.aload_n 0, 1) := by decide +kernel
theorem dX2_pair_31 : decode cX2_pair 31 = .ok (.getfield 42, 3) := by decide +kernel
theorem dX2_pair_34 : decode cX2_pair 34 = .ok (.ifCond .le 7, 3) := by decide +kernel
theorem dX2_pair_37 : decode cX2_pair 37 = .ok (.iconst 0, 1) := by decide +kernel
theorem dX2_pair_38 : decode cX2_pair 38 = .ok (.goto 9, 3) := by decide +kernel
theorem dX2_pair_41 : decode cX2_pair 41 = .ok (.aload_n 0, 1) := by decide +kernel
theorem dX2_pair_42 : decode cX2_pair 42 = .ok (.iload_n 1, 1) := by decide +kernel
theorem dX2_pair_43 : decode cX2_pair 43 = .ok (.iload_n 2, 1) := by decide +kernel
theorem dX2_pair_44 : decode cX2_pair 44 = .ok (.invokevirtual 109, 3) := by decide +kernel
theorem dX2_pair_47 : decode cX2_pair 47 = .ok (.ireturn, 1) := by decide +kernel
set_option maxRecDepth 20000 in
theorem ggX2_clashes_X2_isIn : GoodIn wsX2_clashes wsX2_isIn := goodIn_r _ [7] (by decide +kernel) (by decide +kernel)
set_option maxRecDepth 20000 in
theorem gX2_clashes_X2_isIn : GoodIn wsX2_clashes (va_wsS RX2 45 yX2_isIn wsX2_isIn) := goodIn_app (goodIn_of _ (by decide +kernel)) ggX2_clashes_X2_isIn
set_option maxRecDepth 20000 in
theorem ggX2_clashes_X2_stateOf : GoodIn wsX2_clashes wsX2_stateOf := goodIn_r _ [11, 12, 13, 14, 15, 16, 17, 6, 18, 19, 20, 21, 22, 23, 24, 25, 26, 27, 28, 29, 30, 31, 32, 33, 34, 35, 36, 37, 38, 39, 40, 41, 42, 43, 44, 45, 46, 47, 48, 49, 50, 51, 52, 53, 54, 55, 56, 57, 58, 59, 60, 61, 62] (by decide +kernel) (by decide +kernel)
set_option maxRecDepth 20000 in
theorem gX2_clashes_X2_stateOf : GoodIn wsX2_clashes (wsV RX2 109 RX2 yX2_stateOf wsX2_stateOf) := goodIn_app (goodIn_of _ (by decide +kernel)) ggX2_clashes_X2_stateOf
theorem dX2_clashes_0 : decode cX2_clashes 0 = .ok (.aload_n 0, 1) := by decide +kernel
theorem dX2_clashes_1 : decode cX2_clashes 1 = .ok (.iload_n 1, 1) := by decide +kernel
theorem dX2_clashes_2 : decode cX2_clashes 2 = .ok (.iconst 1, 1) := by decide +kernel
theorem dX2_clashes_3 : decode cX2_clashes 3 = .ok (.iconst 2, 1) := by decide +kernel
theorem dX2_clashes_4 : decode cX2_clashes 4 = .ok (.invokestatic 45, 3) := by decide +kernel
theorem dX2_clashes_7 : decode cX2_clashes 7 = .ok (.ifCond .eq 7, 3) := by decide +kernel
theorem dX2_clashes_10 : decode cX2_clashes 10 = .ok (.iconst 0, 1) := by decide +kernel
theorem dX2_clashes_11 : decode cX2_clashes 11 = .ok (.goto 4, 3) := by decide +kernel
theorem dX2_clashes_14 : decode cX2_clashes 14 = .ok (.iconst 1, 1) := by decide +kernel
theorem dX2_clashes_15 : decode cX2_clashes 15 = .ok (.putfield 42, 3) := by decide +kernel
theorem dX2_clashes_18 : decode cX2_clashes 18 = .ok (.iconst 0, 1) := by decide +kernel
theorem dX2_clashes_19 : decode cX2_clashes 19 = .ok (.istore_n 2, 1) := by decide +kernel
theorem dX2_clashes_20 : decode cX2_clashes 20 = .ok (.iconst 0, 1) := by decide +kernel
theorem dX2_clashes_21 : decode cX2_clashes 21 = .ok (.istore_n 3, 1) := by decide +kernel
theorem dX2_clashes_22 : decode cX2_clashes 22 = .ok (.iload_n 3, 1) := by decide +kernel
theorem dX2_clashes_23 : decode cX2_clashes 23 = .ok (.aload_n 0, 1) := by decide +kernel
theorem dX2_clashes_24 : decode cX2_clashes 24 = .ok (.getfield 49, 3) := by decide +kernel
theorem dX2_clashes_27 : decode cX2_clashes 27 = .ok (.if_icmp .ge 74, 3) := by decide +kernel
theorem dX2_clashes_30 : decode cX2_clashes 30 = .ok (.aload_n 0, 1) := by decide +kernel
theorem dX2_clashes_31 : decode cX2_clashes 31 = .ok (.getfield 42, 3) := by decide +kernel
theorem dX2_clashes_34 : decode cX2_clashes 34 = .ok (.ifCond .ne 67, 3) := by decide +kernel
theorem dX2_clashes_37 : decode cX2_clashes 37 = .ok (.iload_n 3, 1) := by decide +kernel
theorem dX2_clashes_38 : decode cX2_clashes 38 = .ok (.iconst 1, 1) := by decide +kernel
theorem dX2_clashes_39 : decode cX2_clashes 39 = .ok (.iadd, 1) := by decide +kernel
theorem dX2_clashes_40 : decode cX2_clashes 40 = .ok (.istore 4, 2) := by decide +kernel
theorem dX2_clashes_42 : decode cX2_clashes 42 = .ok (.iload 4, 2) := by decide +kernel
theorem dX2_clashes_44 : decode cX2_clashes 44 = .ok (.aload_n 0, 1) := by decide +kernel
theorem dX2_clashes_45 : decode cX2_clashes 45 = .ok (.getfield 49, 3) := by decide +kernel
theorem dX2_clashes_48 : decode cX2_clashes 48 = .ok (.if_icmp .ge 47, 3) := by decide +kernel
theorem dX2_clashes_51 : decode cX2_clashes 51 = .ok (.iload_n 2, 1) := by decide +kernel
theorem dX2_clashes_52 : decode cX2_clashes 52 = .ok (.aload_n 0, 1) := by decide +kernel
theorem dX2_clashes_53 : decode cX2_clashes 53 = .ok (.getfield 7, 3) := by decide +kernel
theorem dX2_clashes_56 : decode cX2_clashes 56 = .ok (.iload_n 3, 1) := by decide +kernel
theorem dX2_clashes_57 : decode cX2_clashes 57 = .ok (.baload, 1) := by decide +kernel
theorem dX2_clashes_58 : decode cX2_clashes 58 = .ok (.ifCond .eq 28, 3) := by decide +kernel
theorem dX2_clashes_61 : decode cX2_clashes 61 = .ok (.aload_n 0, 1) := by decide +kernel
theorem dX2_clashes_62 : decode cX2_clashes 62 = .ok (.getfield 7, 3) := by decide +kernel
theorem dX2_clashes_65 : decode cX2_clashes 65 = .ok (.iload 4, 2) := by decide +kernel
theorem dX2_clashes_67 : decode cX2_clashes 67 = .ok (.baload, 1) := by decide +kernel
theorem dX2_clashes_68 : decode cX2_clashes 68 = .ok (.ifCond .eq 18, 3) := by decide +kernel
theorem dX2_clashes_71 : decode cX2_clashes 71 = .ok (.aload_n 0, 1) := by decide +kernel
theorem dX2_clashes_72 : decode cX2_clashes 72 = .ok (.iload_n 3, 1) := by decide +kernel
theorem dX2_clashes_73 : decode cX2_clashes 73 = .ok (.iload 4, 2) := by decide +kernel
theorem dX2_clashes_75 : decode cX2_clashes 75 = .ok (.invokevirtual 109, 3) := by decide +kernel
theorem dX2_clashes_78 : decode cX2_clashes 78 = .ok (.iload_n 1, 1) := by decide +kernel
theorem dX2_clashes_79 : decode cX2_clashes 79 = .ok (.if_icmp .ne 7, 3) := by decide +kernel
theorem dX2_clashes_82 : decode cX2_clashes 82 = .ok (.iconst 1, 1) := by decide +kernel
theorem dX2_clashes_83 : decode cX2_clashes 83 = .ok (.goto 4, 3) := by decide +kernel
theorem dX2_clashes_86 : decode cX2_clashes 86 = .ok (.iconst 0, 1) := by decide +kernel
theorem dX2_clashes_87 : decode cX2_clashes 87 = .ok (.iadd, 1) := by decide +kernel
theorem dX2_clashes_88 : decode cX2_clashes 88 = .ok (.istore_n 2, 1) := by decide +kernel
theorem dX2_clashes_89 : decode cX2_clashes 89 = .ok (.iinc 4 1, 3) := by decide +kernel
theorem dX2_clashes_92 : decode cX2_clashes 92 = .ok (.goto (-50), 3) := by decide +kernel
theorem dX2_clashes_95 : decode cX2_clashes 95 = .ok (.iinc 3 1, 3) := by decide +kernel
theorem dX2_clashes_98 : decode cX2_clashes 98 = .ok (.goto (-76), 3) := by decide +kernel
theorem dX2_clashes_101 : decode cX2_clashes 101 = .ok (.iload_n 2, 1) := by decide +kernel
theorem dX2_clashes_102 : decode cX2_clashes 102 = .ok (.ireturn, 1) := by decide +kernel
set_option maxRecDepth 20000 in
theorem ggX2_clash_X2_isIn : GoodIn wsX2_clash wsX2_isIn := goodIn_r _ [7] (by decide +kernel) (by decide +kernel)
set_option maxRecDepth 20000 in
theorem gX2_clash_X2_isIn : GoodIn wsX2_clash (va_wsS RX2 45 yX2_isIn wsX2_isIn) := goodIn_app (goodIn_of _ (by decide +kernel)) ggX2_clash_X2_isIn
set_option maxRecDepth 20000 in
theorem ggX2_clash_X2_stateOf : GoodIn wsX2_clash wsX2_stateOf := goodIn_r _ [11, 12, 13, 14, 15, 16, 17, 6, 18, 19, 20, 21, 22, 23, 24, 25, 26, 27, 28, 29, 30, 31, 32, 33, 34, 35, 36, 37, 38, 39, 40, 41, 42, 43, 44, 45, 46, 47, 48, 49, 50, 51, 52, 53, 54, 55, 56, 57, 58, 59, 60, 61, 62] (by decide +kernel) (by decide +kernel)
set_option maxRecDepth 20000 in
theorem gX2_clash_X2_stateOf : GoodIn wsX2_clash (wsV RX2 109 RX2 yX2_stateOf wsX2_stateOf) := goodIn_app (goodIn_of _ (by decide +kernel)) ggX2_clash_X2_stateOf
theorem dX2_clash_0 : decode cX2_clash 0 = .ok (.aload_n 0, 1) := by decide +kernel
theorem dX2_clash_1 : decode cX2_clash 1 = .ok (.iload_n 1, 1) := by decide +kernel
theorem dX2_clash_2 : decode cX2_clash 2 = .ok (.iconst 1, 1) := by decide +kernel
theorem dX2_clash_3 : decode cX2_clash 3 = .ok (.iconst 2, 1) := by decide +kernel
theorem dX2_clash_4 : decode cX2_clash 4 = .ok (.invokestatic 45, 3) := by decide +kernel
theorem dX2_clash_7 : decode cX2_clash 7 = .ok (.ifCond .eq 16, 3) := by decide +kernel
theorem dX2_clash_10 : decode cX2_clash 10 = .ok (.iload_n 3, 1) := by decide +kernel
theorem dX2_clash_11 : decode cX2_clash 11 = .ok (.iconst 0, 1) := by decide +kernel
theorem dX2_clash_12 : decode cX2_clash 12 = .ok (.iconst 1, 1) := by decide +kernel
theorem dX2_clash_13 : decode cX2_clash 13 = .ok (.invokestatic 45, 3) := by decide +kernel
theorem dX2_clash_16 : decode cX2_clash 16 = .ok (.ifCond .eq 7, 3) := by decide +kernel
theorem dX2_clash_19 : decode cX2_clash 19 = .ok (.iload_n 2, 1) := by decide +kernel
theorem dX2_clash_20 : decode cX2_clash 20 = .ok (.ifCond .ge 7, 3) := by decide +kernel
theorem dX2_clash_23 : decode cX2_clash 23 = .ok (.iconst 1, 1) := by decide +kernel
theorem dX2_clash_24 : decode cX2_clash 24 = .ok (.goto 4, 3) := by decide +kernel
theorem dX2_clash_27 : decode cX2_clash 27 = .ok (.iconst 0, 1) := by decide +kernel
theorem dX2_clash_28 : decode cX2_clash 28 = .ok (.putfield 42, 3) := by decide +kernel
theorem dX2_clash_31 : decode cX2_clash 31 = .ok (.aload_n 0, 1) := by decide +kernel
theorem dX2_clash_32 : decode cX2_clash 32 = .ok (.getfield 42, 3) := by decide +kernel
theorem dX2_clash_35 : decode cX2_clash 35 = .ok (.ifCond .le 5, 3) := by decide +kernel
theorem dX2_clash_38 : decode cX2_clash 38 = .ok (.iconst 0, 1) := by decide +kernel
theorem dX2_clash_39 : decode cX2_clash 39 = .ok (.ireturn, 1) := by decide +kernel
theorem dX2_clash_40 : decode cX2_clash 40 = .ok (.iconst 0, 1) := by decide +kernel
theorem dX2_clash_41 : decode cX2_clash 41 = .ok (.istore 4, 2) := by decide +kernel
theorem dX2_clash_43 : decode cX2_clash 43 = .ok (.iconst 0, 1) := by decide +kernel
theorem dX2_clash_44 : decode cX2_clash 44 = .ok (.istore 5, 2) := by decide +kernel
theorem dX2_clash_46 : decode cX2_clash 46 = .ok (.iload 5, 2) := by decide +kernel
theorem dX2_clash_48 : decode cX2_clash 48 = .ok (.aload_n 0, 1) := by decide +kernel
theorem dX2_clash_49 : decode cX2_clash 49 = .ok (.getfield 49, 3) := by decide +kernel
theorem dX2_clash_52 : decode cX2_clash 52 = .ok (.if_icmp .ge 83, 3) := by decide +kernel
theorem dX2_clash_55 : decode cX2_clash 55 = .ok (.iload 5, 2) := by decide +kernel
theorem dX2_clash_57 : decode cX2_clash 57 = .ok (.iconst 1, 1) := by decide +kernel
theorem dX2_clash_58 : decode cX2_clash 58 = .ok (.iadd, 1) := by decide +kernel
theorem dX2_clash_59 : decode cX2_clash 59 = .ok (.istore 6, 2) := by decide +kernel
theorem dX2_clash_61 : decode cX2_clash 61 = .ok (.iload 6, 2) := by decide +kernel
theorem dX2_clash_63 : decode cX2_clash 63 = .ok (.aload_n 0, 1) := by decide +kernel
theorem dX2_clash_64 : decode cX2_clash 64 = .ok (.getfield 49, 3) := by decide +kernel
theorem dX2_clash_67 : decode cX2_clash 67 = .ok (.if_icmp .ge 62, 3) := by decide +kernel
theorem dX2_clash_70 : decode cX2_clash 70 = .ok (.aload_n 0, 1) := by decide +kernel
theorem dX2_clash_71 : decode cX2_clash 71 = .ok (.getfield 7, 3) := by decide +kernel
theorem dX2_clash_74 : decode cX2_clash 74 = .ok (.iload 5, 2) := by decide +kernel
theorem dX2_clash_76 : decode cX2_clash 76 = .ok (.baload, 1) := by decide +kernel
theorem dX2_clash_77 : decode cX2_clash 77 = .ok (.ifCond .eq 46, 3) := by decide +kernel
theorem dX2_clash_80 : decode cX2_clash 80 = .ok (.aload_n 0, 1) := by decide +kernel
theorem dX2_clash_81 : decode cX2_clash 81 = .ok (.getfield 7, 3) := by decide +kernel
theorem dX2_clash_84 : decode cX2_clash 84 = .ok (.iload 6, 2) := by decide +kernel
theorem dX2_clash_86 : decode cX2_clash 86 = .ok (.baload, 1) := by decide +kernel
theorem dX2_clash_87 : decode cX2_clash 87 = .ok (.ifCond .eq 36, 3) := by decide +kernel
theorem dX2_clash_90 : decode cX2_clash 90 = .ok (.aload_n 0, 1) := by decide +kernel
theorem dX2_clash_91 : decode cX2_clash 91 = .ok (.iload 5, 2) := by decide +kernel
theorem dX2_clash_93 : decode cX2_clash 93 = .ok (.iload 6, 2) := by decide +kernel
theorem dX2_clash_95 : decode cX2_clash 95 = .ok (.invokevirtual 109, 3) := by decide +kernel
theorem dX2_clash_98 : decode cX2_clash 98 = .ok (.iload_n 1, 1) := by decide +kernel
theorem dX2_clash_99 : decode cX2_clash 99 = .ok (.if_icmp .ne 24, 3) := by decide +kernel
theorem dX2_clash_102 : decode cX2_clash 102 = .ok (.iload 4, 2) := by decide +kernel
theorem dX2_clash_104 : decode cX2_clash 104 = .ok (.iload_n 2, 1) := by decide +kernel
theorem dX2_clash_105 : decode cX2_clash 105 = .ok (.if_icmp .ne 15, 3) := by decide +kernel
theorem dX2_clash_108 : decode cX2_clash 108 = .ok (.iload_n 3, 1) := by decide +kernel
theorem dX2_clash_109 : decode cX2_clash 109 = .ok (.ifCond .ne 8, 3) := by decide +kernel
theorem dX2_clash_112 : decode cX2_clash 112 = .ok (.iload 5, 2) := by decide +kernel
theorem dX2_clash_114 : decode cX2_clash 114 = .ok (.goto 5, 3) := by decide +kernel
theorem dX2_clash_117 : decode cX2_clash 117 = .ok (.iload 6, 2) := by decide +kernel
theorem dX2_clash_119 : decode cX2_clash 119 = .ok (.ireturn, 1) := by decide +kernel
theorem dX2_clash_120 : decode cX2_clash 120 = .ok (.iinc 4 1, 3) := by decide +kernel
theorem dX2_clash_123 : decode cX2_clash 123 = .ok (.iinc 6 1, 3) := by decide +kernel
theorem dX2_clash_126 : decode cX2_clash 126 = .ok (.goto (-65), 3) := by decide +kernel
theorem dX2_clash_129 : decode cX2_clash 129 = .ok (.iinc 5 1, 3) := by decide +kernel
theorem dX2_clash_132 : decode cX2_clash 132 = .ok (.goto (-86), 3) := by decide +kernel
theorem dX2_clash_135 : decode cX2_clash 135 = .ok (.iconst (-1), 1) := by decide +kernel
theorem dX2_clash_136 : decode cX2_clash 136 = .ok (.ireturn, 1) := by decide +kernel
set_option maxRecDepth 20000 in
theorem ggX2_findGroups_X2_stateOf : GoodIn wsX2_findGroups wsX2_stateOf := goodIn_r _ [8, 9, 10, 11, 12, 13, 14, 7, 15, 16, 17, 18, 19, 20, 21, 22, 23, 24, 25, 26, 27, 28, 29, 30, 31, 32, 33, 34, 35, 36, 37, 38, 39, 40, 41, 42, 43, 44, 45, 46, 47, 48, 49, 50, 51, 52, 53, 54, 55, 56, 57, 58, 59] (by decide +kernel) (by decide +kernel)
set_option maxRecDepth 20000 in
theorem gX2_findGroups_X2_stateOf : GoodIn wsX2_findGroups (wsV RX2 109 RX2 yX2_stateOf wsX2_stateOf) := goodIn_app (goodIn_of _ (by decide +kernel)) ggX2_findGroups_X2_stateOf
theorem dX2_findGroups_0 : decode cX2_findGroups 0 = .ok (.iconst 0, 1) := by decide +kernel
theorem dX2_findGroups_1 : decode cX2_findGroups 1 = .ok (.istore_n 1, 1) := by decide +kernel
theorem dX2_findGroups_2 : decode cX2_findGroups 2 = .ok (.iload_n 1, 1) := by decide +kernel
theorem dX2_findGroups_3 : decode cX2_findGroups 3 = .ok (.aload_n 0, 1) := by decide +kernel
theorem dX2_findGroups_4 : decode cX2_findGroups 4 = .ok (.getfield 49, 3) := by decide +kernel
theorem dX2_findGroups_7 : decode cX2_findGroups 7 = .ok (.if_icmp .ge 16, 3) := by decide +kernel
theorem dX2_findGroups_10 : decode cX2_findGroups 10 = .ok (.aload_n 0, 1) := by decide +kernel
theorem dX2_findGroups_11 : decode cX2_findGroups 11 = .ok (.getfield 35, 3) := by decide +kernel
theorem dX2_findGroups_14 : decode cX2_findGroups 14 = .ok (.iload_n 1, 1) := by decide +kernel
theorem dX2_findGroups_15 : decode cX2_findGroups 15 = .ok (.iload_n 1, 1) := by decide +kernel
theorem dX2_findGroups_16 : decode cX2_findGroups 16 = .ok (.iastore, 1) := by decide +kernel
theorem dX2_findGroups_17 : decode cX2_findGroups 17 = .ok (.iinc 1 1, 3) := by decide +kernel
theorem dX2_findGroups_20 : decode cX2_findGroups 20 = .ok (.goto (-18), 3) := by decide +kernel
theorem dX2_findGroups_23 : decode cX2_findGroups 23 = .ok (.iconst 0, 1) := by decide +kernel
theorem dX2_findGroups_24 : decode cX2_findGroups 24 = .ok (.istore_n 1, 1) := by decide +kernel
theorem dX2_findGroups_25 : decode cX2_findGroups 25 = .ok (.iload_n 1, 1) := by decide +kernel
theorem dX2_findGroups_26 : decode cX2_findGroups 26 = .ok (.aload_n 0, 1) := by decide +kernel
theorem dX2_findGroups_27 : decode cX2_findGroups 27 = .ok (.getfield 49, 3) := by decide +kernel
theorem dX2_findGroups_30 : decode cX2_findGroups 30 = .ok (.if_icmp .ge 166, 3) := by decide +kernel
theorem dX2_findGroups_33 : decode cX2_findGroups 33 = .ok (.iload_n 1, 1) := by decide +kernel
theorem dX2_findGroups_34 : decode cX2_findGroups 34 = .ok (.iconst 1, 1) := by decide +kernel
theorem dX2_findGroups_35 : decode cX2_findGroups 35 = .ok (.iadd, 1) := by decide +kernel
theorem dX2_findGroups_36 : decode cX2_findGroups 36 = .ok (.istore_n 2, 1) := by decide +kernel
theorem dX2_findGroups_37 : decode cX2_findGroups 37 = .ok (.iload_n 2, 1) := by decide +kernel
theorem dX2_findGroups_38 : decode cX2_findGroups 38 = .ok (.aload_n 0, 1) := by decide +kernel
theorem dX2_findGroups_39 : decode cX2_findGroups 39 = .ok (.getfield 49, 3) := by decide +kernel
theorem dX2_findGroups_42 : decode cX2_findGroups 42 = .ok (.if_icmp .ge 148, 3) := by decide +kernel
theorem dX2_findGroups_45 : decode cX2_findGroups 45 = .ok (.aload_n 0, 1) := by decide +kernel
theorem dX2_findGroups_46 : decode cX2_findGroups 46 = .ok (.getfield 7, 3) := by decide +kernel
theorem dX2_findGroups_49 : decode cX2_findGroups 49 = .ok (.iload_n 1, 1) := by decide +kernel
theorem dX2_findGroups_50 : decode cX2_findGroups 50 = .ok (.baload, 1) := by decide +kernel
theorem dX2_findGroups_51 : decode cX2_findGroups 51 = .ok (.ifCond .eq 133, 3) := by decide +kernel
theorem dX2_findGroups_54 : decode cX2_findGroups 54 = .ok (.aload_n 0, 1) := by decide +kernel
theorem dX2_findGroups_55 : decode cX2_findGroups 55 = .ok (.getfield 7, 3) := by decide +kernel
theorem dX2_findGroups_58 : decode cX2_findGroups 58 = .ok (.iload_n 2, 1) := by decide +kernel
theorem dX2_findGroups_59 : decode cX2_findGroups 59 = .ok (.baload, 1) := by decide +kernel
theorem dX2_findGroups_60 : decode cX2_findGroups 60 = .ok (.ifCond .eq 124, 3) := by decide +kernel
theorem dX2_findGroups_63 : decode cX2_findGroups 63 = .ok (.aload_n 0, 1) := by decide +kernel
theorem dX2_findGroups_64 : decode cX2_findGroups 64 = .ok (.getfield 35, 3) := by decide +kernel
theorem dX2_findGroups_67 : decode cX2_findGroups 67 = .ok (.iload_n 1, 1) := by decide +kernel
theorem dX2_findGroups_68 : decode cX2_findGroups 68 = .ok (.iaload, 1) := by decide +kernel
theorem dX2_findGroups_69 : decode cX2_findGroups 69 = .ok (.aload_n 0, 1) := by decide +kernel
theorem dX2_findGroups_70 : decode cX2_findGroups 70 = .ok (.getfield 35, 3) := by decide +kernel
theorem dX2_findGroups_73 : decode cX2_findGroups 73 = .ok (.iload_n 2, 1) := by decide +kernel
theorem dX2_findGroups_74 : decode cX2_findGroups 74 = .ok (.iaload, 1) := by decide +kernel
theorem dX2_findGroups_75 : decode cX2_findGroups 75 = .ok (.if_icmp .eq 109, 3) := by decide +kernel
theorem dX2_findGroups_78 : decode cX2_findGroups 78 = .ok (.aload_n 0, 1) := by decide +kernel
theorem dX2_findGroups_79 : decode cX2_findGroups 79 = .ok (.iload_n 1, 1) := by decide +kernel
theorem dX2_findGroups_80 : decode cX2_findGroups 80 = .ok (.iload_n 2, 1) := by decide +kernel
theorem dX2_findGroups_81 : decode cX2_findGroups 81 = .ok (.invokevirtual 109, 3) := by decide +kernel
theorem dX2_findGroups_84 : decode cX2_findGroups 84 = .ok (.iconst 2, 1) := by decide +kernel
theorem dX2_findGroups_85 : decode cX2_findGroups 85 = .ok (.if_icmp .ne 99, 3) := by decide +kernel
theorem dX2_findGroups_88 : decode cX2_findGroups 88 = .ok (.aload_n 0, 1) := by decide +kernel
theorem dX2_findGroups_89 : decode cX2_findGroups 89 = .ok (.getfield 35, 3) := by decide +kernel
theorem dX2_findGroups_92 : decode cX2_findGroups 92 = .ok (.iload_n 1, 1) := by decide +kernel
theorem dX2_findGroups_93 : decode cX2_findGroups 93 = .ok (.iaload, 1) := by decide +kernel
theorem dX2_findGroups_94 : decode cX2_findGroups 94 = .ok (.aload_n 0, 1) := by decide +kernel
theorem dX2_findGroups_95 : decode cX2_findGroups 95 = .ok (.getfield 35, 3) := by decide +kernel
theorem dX2_findGroups_98 : decode cX2_findGroups 98 = .ok (.iload_n 2, 1) := by decide +kernel
theorem dX2_findGroups_99 : decode cX2_findGroups 99 = .ok (.iaload, 1) := by decide +kernel
theorem dX2_findGroups_100 : decode cX2_findGroups 100 = .ok (.if_icmp .ge 12, 3) := by decide +kernel
theorem dX2_findGroups_103 : decode cX2_findGroups 103 = .ok (.aload_n 0, 1) := by decide +kernel
theorem dX2_findGroups_104 : decode cX2_findGroups 104 = .ok (.getfield 35, 3) := by decide +kernel
theorem dX2_findGroups_107 : decode cX2_findGroups 107 = .ok (.iload_n 1, 1) := by decide +kernel
theorem dX2_findGroups_108 : decode cX2_findGroups 108 = .ok (.iaload, 1) := by decide +kernel
theorem dX2_findGroups_109 : decode cX2_findGroups 109 = .ok (.goto 9, 3) := by decide +kernel
theorem dX2_findGroups_112 : decode cX2_findGroups 112 = .ok (.aload_n 0, 1) := by decide +kernel
theorem dX2_findGroups_113 : decode cX2_findGroups 113 = .ok (.getfield 35, 3) := by decide +kernel
theorem dX2_findGroups_116 : decode cX2_findGroups 116 = .ok (.iload_n 2, 1) := by decide +kernel
theorem dX2_findGroups_117 : decode cX2_findGroups 117 = .ok (.iaload, 1) := by decide +kernel
theorem dX2_findGroups_118 : decode cX2_findGroups 118 = .ok (.istore_n 3, 1) := by decide +kernel
theorem dX2_findGroups_119 : decode cX2_findGroups 119 = .ok (.aload_n 0, 1) := by decide +kernel
theorem dX2_findGroups_120 : decode cX2_findGroups 120 = .ok (.getfield 35, 3) := by decide +kernel
theorem dX2_findGroups_123 : decode cX2_findGroups 123 = .ok (.iload_n 1, 1) := by decide +kernel
theorem dX2_findGroups_124 : decode cX2_findGroups 124 = .ok (.iaload, 1) := by decide +kernel
theorem dX2_findGroups_125 : decode cX2_findGroups 125 = .ok (.aload_n 0, 1) := by decide +kernel
theorem dX2_findGroups_126 : decode cX2_findGroups 126 = .ok (.getfield 35, 3) := by decide +kernel
theorem dX2_findGroups_129 : decode cX2_findGroups 129 = .ok (.iload_n 2, 1) := by decide +kernel
theorem dX2_findGroups_130 : decode cX2_findGroups 130 = .ok (.iaload, 1) := by decide +kernel
theorem dX2_findGroups_131 : decode cX2_findGroups 131 = .ok (.iadd, 1) := by decide +kernel
theorem dX2_findGroups_132 : decode cX2_findGroups 132 = .ok (.iload_n 3, 1) := by decide +kernel
theorem dX2_findGroups_133 : decode cX2_findGroups 133 = .ok (.isub, 1) := by decide +kernel
theorem dX2_findGroups_134 : decode cX2_findGroups 134 = .ok (.istore 4, 2) := by decide +kernel
theorem dX2_findGroups_136 : decode cX2_findGroups 136 = .ok (.iconst 0, 1) := by decide +kernel
theorem dX2_findGroups_137 : decode cX2_findGroups 137 = .ok (.istore 5, 2) := by decide +kernel
theorem dX2_findGroups_139 : decode cX2_findGroups 139 = .ok (.iload 5, 2) := by decide +kernel
theorem dX2_findGroups_141 : decode cX2_findGroups 141 = .ok (.aload_n 0, 1) := by decide +kernel
theorem dX2_findGroups_142 : decode cX2_findGroups 142 = .ok (.getfield 49, 3) := by decide +kernel
theorem dX2_findGroups_145 : decode cX2_findGroups 145 = .ok (.if_icmp .ge 39, 3) := by decide +kernel
theorem dX2_findGroups_148 : decode cX2_findGroups 148 = .ok (.aload_n 0, 1) := by decide +kernel
theorem dX2_findGroups_149 : decode cX2_findGroups 149 = .ok (.getfield 35, 3) := by decide +kernel
theorem dX2_findGroups_152 : decode cX2_findGroups 152 = .ok (.iload 5, 2) := by decide +kernel
theorem dX2_findGroups_154 : decode cX2_findGroups 154 = .ok (.aload_n 0, 1) := by decide +kernel
theorem dX2_findGroups_155 : decode cX2_findGroups 155 = .ok (.getfield 35, 3) := by decide +kernel
theorem dX2_findGroups_158 : decode cX2_findGroups 158 = .ok (.iload 5, 2) := by decide +kernel
theorem dX2_findGroups_160 : decode cX2_findGroups 160 = .ok (.iaload, 1) := by decide +kernel
theorem dX2_findGroups_161 : decode cX2_findGroups 161 = .ok (.iload 4, 2) := by decide +kernel
theorem dX2_findGroups_163 : decode cX2_findGroups 163 = .ok (.if_icmp .ne 7, 3) := by decide +kernel
theorem dX2_findGroups_166 : decode cX2_findGroups 166 = .ok (.iload_n 3, 1) := by decide +kernel
theorem dX2_findGroups_167 : decode cX2_findGroups 167 = .ok (.goto 10, 3) := by decide +kernel
theorem dX2_findGroups_170 : decode cX2_findGroups 170 = .ok (.aload_n 0, 1) := by decide +kernel
theorem dX2_findGroups_171 : decode cX2_findGroups 171 = .ok (.getfield 35, 3) := by decide +kernel
theorem dX2_findGroups_174 : decode cX2_findGroups 174 = .ok (.iload 5, 2) := by decide +kernel
theorem dX2_findGroups_176 : decode cX2_findGroups 176 = .ok (.iaload, 1) := by decide +kernel
theorem dX2_findGroups_177 : decode cX2_findGroups 177 = .ok (.iastore, 1) := by decide +kernel
theorem dX2_findGroups_178 : decode cX2_findGroups 178 = .ok (.iinc 5 1, 3) := by decide +kernel
theorem dX2_findGroups_181 : decode cX2_findGroups 181 = .ok (.goto (-42), 3) := by decide +kernel
theorem dX2_findGroups_184 : decode cX2_findGroups 184 = .ok (.iinc 2 1, 3) := by decide +kernel
theorem dX2_findGroups_187 : decode cX2_findGroups 187 = .ok (.goto (-150), 3) := by decide +kernel
theorem dX2_findGroups_190 : decode cX2_findGroups 190 = .ok (.iinc 1 1, 3) := by decide +kernel
theorem dX2_findGroups_193 : decode cX2_findGroups 193 = .ok (.goto (-168), 3) := by decide +kernel
theorem dX2_findGroups_196 : decode cX2_findGroups 196 = .ok (.return_, 1) := by decide +kernel
set_option maxRecDepth 20000 in
theorem ggX2_groups_X2_findGroups : GoodIn wsX2_groups wsX2_findGroups := goodIn_r _ [9, 2, 4, 3, 10, 11, 12, 8, 13, 14, 15, 16, 17, 18, 19, 20, 21, 22, 23, 24, 25, 26, 27, 28, 29, 30, 31, 32, 33, 34, 35, 36, 37, 38, 39, 40, 41, 42, 43, 44, 45, 46, 47, 48, 49, 50, 51, 52, 53, 54, 55, 56, 57, 58, 59, 60, 61, 62, 63, 64] (by decide +kernel) (by decide +kernel)
set_option maxRecDepth 20000 in
theorem gX2_groups_X2_findGroups : GoodIn wsX2_groups (wsV RX2 113 RX2 yX2_findGroups wsX2_findGroups) := goodIn_app (goodIn_of _ (by decide +kernel)) ggX2_groups_X2_findGroups
theorem dX2_groups_0 : decode cX2_groups 0 = .ok (.aload_n 0, 1) := by decide +kernel
theorem dX2_groups_1 : decode cX2_groups 1 = .ok (.iconst 0, 1) := by decide +kernel
theorem dX2_groups_2 : decode cX2_groups 2 = .ok (.putfield 42, 3) := by decide +kernel
theorem dX2_groups_5 : decode cX2_groups 5 = .ok (.aload_n 0, 1) := by decide +kernel
theorem dX2_groups_6 : decode cX2_groups 6 = .ok (.invokevirtual 113, 3) := by decide +kernel
theorem dX2_groups_9 : decode cX2_groups 9 = .ok (.iconst 0, 1) := by decide +kernel
theorem dX2_groups_10 : decode cX2_groups 10 = .ok (.istore_n 1, 1) := by decide +kernel
theorem dX2_groups_11 : decode cX2_groups 11 = .ok (.iconst 0, 1) := by decide +kernel
theorem dX2_groups_12 : decode cX2_groups 12 = .ok (.istore_n 2, 1) := by decide +kernel
theorem dX2_groups_13 : decode cX2_groups 13 = .ok (.iload_n 2, 1) := by decide +kernel
theorem dX2_groups_14 : decode cX2_groups 14 = .ok (.aload_n 0, 1) := by decide +kernel
theorem dX2_groups_15 : decode cX2_groups 15 = .ok (.getfield 49, 3) := by decide +kernel
theorem dX2_groups_18 : decode cX2_groups 18 = .ok (.if_icmp .ge 71, 3) := by decide +kernel
theorem dX2_groups_21 : decode cX2_groups 21 = .ok (.iconst 0, 1) := by decide +kernel
theorem dX2_groups_22 : decode cX2_groups 22 = .ok (.istore_n 3, 1) := by decide +kernel
theorem dX2_groups_23 : decode cX2_groups 23 = .ok (.iconst 0, 1) := by decide +kernel
theorem dX2_groups_24 : decode cX2_groups 24 = .ok (.istore 4, 2) := by decide +kernel
theorem dX2_groups_26 : decode cX2_groups 26 = .ok (.iload 4, 2) := by decide +kernel
theorem dX2_groups_28 : decode cX2_groups 28 = .ok (.aload_n 0, 1) := by decide +kernel
theorem dX2_groups_29 : decode cX2_groups 29 = .ok (.getfield 49, 3) := by decide +kernel
theorem dX2_groups_32 : decode cX2_groups 32 = .ok (.if_icmp .ge 38, 3) := by decide +kernel
theorem dX2_groups_35 : decode cX2_groups 35 = .ok (.iload_n 3, 1) := by decide +kernel
theorem dX2_groups_36 : decode cX2_groups 36 = .ok (.aload_n 0, 1) := by decide +kernel
theorem dX2_groups_37 : decode cX2_groups 37 = .ok (.getfield 7, 3) := by decide +kernel
theorem dX2_groups_40 : decode cX2_groups 40 = .ok (.iload 4, 2) := by decide +kernel
theorem dX2_groups_42 : decode cX2_groups 42 = .ok (.baload, 1) := by decide +kernel
theorem dX2_groups_43 : decode cX2_groups 43 = .ok (.ifCond .eq 18, 3) := by decide +kernel
theorem dX2_groups_46 : decode cX2_groups 46 = .ok (.aload_n 0, 1) := by decide +kernel
theorem dX2_groups_47 : decode cX2_groups 47 = .ok (.getfield 35, 3) := by decide +kernel
theorem dX2_groups_50 : decode cX2_groups 50 = .ok (.iload 4, 2) := by decide +kernel
theorem dX2_groups_52 : decode cX2_groups 52 = .ok (.iaload, 1) := by decide +kernel
theorem dX2_groups_53 : decode cX2_groups 53 = .ok (.iload_n 2, 1) := by decide +kernel
theorem dX2_groups_54 : decode cX2_groups 54 = .ok (.if_icmp .ne 7, 3) := by decide +kernel
theorem dX2_groups_57 : decode cX2_groups 57 = .ok (.iconst 1, 1) := by decide +kernel
theorem dX2_groups_58 : decode cX2_groups 58 = .ok (.goto 4, 3) := by decide +kernel
theorem dX2_groups_61 : decode cX2_groups 61 = .ok (.iconst 0, 1) := by decide +kernel
theorem dX2_groups_62 : decode cX2_groups 62 = .ok (.iadd, 1) := by decide +kernel
theorem dX2_groups_63 : decode cX2_groups 63 = .ok (.istore_n 3, 1) := by decide +kernel
theorem dX2_groups_64 : decode cX2_groups 64 = .ok (.iinc 4 1, 3) := by decide +kernel
theorem dX2_groups_67 : decode cX2_groups 67 = .ok (.goto (-41), 3) := by decide +kernel
theorem dX2_groups_70 : decode cX2_groups 70 = .ok (.iload_n 1, 1) := by decide +kernel
theorem dX2_groups_71 : decode cX2_groups 71 = .ok (.iload_n 3, 1) := by decide +kernel
theorem dX2_groups_72 : decode cX2_groups 72 = .ok (.iconst 1, 1) := by decide +kernel
theorem dX2_groups_73 : decode cX2_groups 73 = .ok (.if_icmp .le 7, 3) := by decide +kernel
theorem dX2_groups_76 : decode cX2_groups 76 = .ok (.iconst 1, 1) := by decide +kernel
theorem dX2_groups_77 : decode cX2_groups 77 = .ok (.goto 4, 3) := by decide +kernel
theorem dX2_groups_80 : decode cX2_groups 80 = .ok (.iconst 0, 1) := by decide +kernel
theorem dX2_groups_81 : decode cX2_groups 81 = .ok (.iadd, 1) := by decide +kernel
theorem dX2_groups_82 : decode cX2_groups 82 = .ok (.istore_n 1, 1) := by decide +kernel
theorem dX2_groups_83 : decode cX2_groups 83 = .ok (.iinc 2 1, 3) := by decide +kernel
