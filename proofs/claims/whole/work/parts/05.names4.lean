theorem dX2_groups_86 : decode cX2_groups 86 = .ok (.goto (-73), 3) := by decide +kernel
theorem dX2_groups_89 : decode cX2_groups 89 = .ok (.iload_n 1, 1) := by decide +kernel
theorem dX2_groups_90 : decode cX2_groups 90 = .ok (.ireturn, 1) := by decide +kernel
set_option maxRecDepth 20000 in
theorem ggX2_group_X2_isPart : GoodIn wsX2_group wsX2_isPart := goodIn_r _ [7, 8, 9, 10, 11, 6, 12, 57, 58, 59, 60, 61, 62, 63, 64, 65, 66, 67, 68, 69, 70, 71] (by decide +kernel) (by decide +kernel)
set_option maxRecDepth 20000 in
theorem gX2_group_X2_isPart : GoodIn wsX2_group (wsV RX2 74 RX2 yX2_isPart wsX2_isPart) := goodIn_app (goodIn_of _ (by decide +kernel)) ggX2_group_X2_isPart
set_option maxRecDepth 20000 in
theorem ggX2_group_X2_findGroups : GoodIn wsX2_group wsX2_findGroups := goodIn_r _ [16, 8, 2, 9, 17, 18, 19, 6, 20, 21, 22, 23, 24, 25, 26, 27, 28, 29, 30, 31, 32, 33, 34, 35, 36, 37, 38, 39, 40, 41, 42, 43, 44, 45, 46, 47, 48, 49, 50, 51, 52, 53, 54, 55, 56, 57, 58, 59, 60, 61, 62, 63, 64, 65, 66, 67, 68, 69, 70, 71] (by decide +kernel) (by decide +kernel)
set_option maxRecDepth 20000 in
theorem gX2_group_X2_findGroups : GoodIn wsX2_group (wsV RX2 113 RX2 yX2_findGroups wsX2_findGroups) := goodIn_app (goodIn_of _ (by decide +kernel)) ggX2_group_X2_findGroups
theorem dX2_group_0 : decode cX2_group 0 = .ok (.aload_n 0, 1) := by decide +kernel
theorem dX2_group_1 : decode cX2_group 1 = .ok (.aload_n 0, 1) := by decide +kernel
theorem dX2_group_2 : decode cX2_group 2 = .ok (.iload_n 1, 1) := by decide +kernel
theorem dX2_group_3 : decode cX2_group 3 = .ok (.invokevirtual 74, 3) := by decide +kernel
theorem dX2_group_6 : decode cX2_group 6 = .ok (.ifCond .eq 7, 3) := by decide +kernel
theorem dX2_group_9 : decode cX2_group 9 = .ok (.iconst 0, 1) := by decide +kernel
theorem dX2_group_10 : decode cX2_group 10 = .ok (.goto 4, 3) := by decide +kernel
theorem dX2_group_13 : decode cX2_group 13 = .ok (.iconst 1, 1) := by decide +kernel
theorem dX2_group_14 : decode cX2_group 14 = .ok (.putfield 42, 3) := by decide +kernel
theorem dX2_group_17 : decode cX2_group 17 = .ok (.aload_n 0, 1) := by decide +kernel
theorem dX2_group_18 : decode cX2_group 18 = .ok (.getfield 42, 3) := by decide +kernel
theorem dX2_group_21 : decode cX2_group 21 = .ok (.ifCond .le 5, 3) := by decide +kernel
theorem dX2_group_24 : decode cX2_group 24 = .ok (.iconst 0, 1) := by decide +kernel
theorem dX2_group_25 : decode cX2_group 25 = .ok (.ireturn, 1) := by decide +kernel
theorem dX2_group_26 : decode cX2_group 26 = .ok (.aload_n 0, 1) := by decide +kernel
theorem dX2_group_27 : decode cX2_group 27 = .ok (.invokevirtual 113, 3) := by decide +kernel
theorem dX2_group_30 : decode cX2_group 30 = .ok (.aload_n 0, 1) := by decide +kernel
theorem dX2_group_31 : decode cX2_group 31 = .ok (.getfield 35, 3) := by decide +kernel
theorem dX2_group_34 : decode cX2_group 34 = .ok (.iload_n 1, 1) := by decide +kernel
theorem dX2_group_35 : decode cX2_group 35 = .ok (.iaload, 1) := by decide +kernel
theorem dX2_group_36 : decode cX2_group 36 = .ok (.ireturn, 1) := by decide +kernel
set_option maxRecDepth 20000 in
theorem ggX2_common_X2_isPart : GoodIn wsX2_common wsX2_isPart := goodIn_r _ [6, 7, 8, 9, 10, 5, 11, 27, 28, 29, 30, 31, 32, 33, 34, 35, 36, 37, 38, 39, 40, 41] (by decide +kernel) (by decide +kernel)
set_option maxRecDepth 20000 in
theorem gX2_common_X2_isPart : GoodIn wsX2_common (wsV RX2 74 RX2 yX2_isPart wsX2_isPart) := goodIn_app (goodIn_of _ (by decide +kernel)) ggX2_common_X2_isPart
set_option maxRecDepth 20000 in
theorem ggX2_common_X2_hullEnd : GoodIn wsX2_common wsX2_hullEnd := goodIn_r _ [15, 16, 17, 18, 19, 20, 5, 21, 22, 23, 24, 25, 26, 27, 28, 29, 30, 31, 32, 33, 34, 35, 36, 37, 38, 39, 40, 41] (by decide +kernel) (by decide +kernel)
set_option maxRecDepth 20000 in
theorem gX2_common_X2_hullEnd : GoodIn wsX2_common (wsV RX2 90 RX2 yX2_hullEnd wsX2_hullEnd) := goodIn_app (goodIn_of _ (by decide +kernel)) ggX2_common_X2_hullEnd
theorem dX2_common_0 : decode cX2_common 0 = .ok (.aload_n 0, 1) := by decide +kernel
theorem dX2_common_1 : decode cX2_common 1 = .ok (.aload_n 0, 1) := by decide +kernel
theorem dX2_common_2 : decode cX2_common 2 = .ok (.iload_n 1, 1) := by decide +kernel
theorem dX2_common_3 : decode cX2_common 3 = .ok (.invokevirtual 74, 3) := by decide +kernel
theorem dX2_common_6 : decode cX2_common 6 = .ok (.ifCond .eq 16, 3) := by decide +kernel
theorem dX2_common_9 : decode cX2_common 9 = .ok (.aload_n 0, 1) := by decide +kernel
theorem dX2_common_10 : decode cX2_common 10 = .ok (.iload_n 2, 1) := by decide +kernel
theorem dX2_common_11 : decode cX2_common 11 = .ok (.invokevirtual 74, 3) := by decide +kernel
theorem dX2_common_14 : decode cX2_common 14 = .ok (.ifCond .eq 8, 3) := by decide +kernel
theorem dX2_common_17 : decode cX2_common 17 = .ok (.iload_n 1, 1) := by decide +kernel
theorem dX2_common_18 : decode cX2_common 18 = .ok (.iload_n 2, 1) := by decide +kernel
theorem dX2_common_19 : decode cX2_common 19 = .ok (.if_icmp .ne 7, 3) := by decide +kernel
theorem dX2_common_22 : decode cX2_common 22 = .ok (.iconst 1, 1) := by decide +kernel
theorem dX2_common_23 : decode cX2_common 23 = .ok (.goto 4, 3) := by decide +kernel
theorem dX2_common_26 : decode cX2_common 26 = .ok (.iconst 0, 1) := by decide +kernel
theorem dX2_common_27 : decode cX2_common 27 = .ok (.putfield 42, 3) := by decide +kernel
theorem dX2_common_30 : decode cX2_common 30 = .ok (.aload_n 0, 1) := by decide +kernel
theorem dX2_common_31 : decode cX2_common 31 = .ok (.getfield 42, 3) := by decide +kernel
theorem dX2_common_34 : decode cX2_common 34 = .ok (.ifCond .le 5, 3) := by decide +kernel
theorem dX2_common_37 : decode cX2_common 37 = .ok (.lconst 0, 1) := by decide +kernel
theorem dX2_common_38 : decode cX2_common 38 = .ok (.lreturn, 1) := by decide +kernel
theorem dX2_common_39 : decode cX2_common 39 = .ok (.lconst 1, 1) := by decide +kernel
theorem dX2_common_40 : decode cX2_common 40 = .ok (.lstore_n 3, 1) := by decide +kernel
theorem dX2_common_41 : decode cX2_common 41 = .ok (.iconst 0, 1) := by decide +kernel
theorem dX2_common_42 : decode cX2_common 42 = .ok (.istore 5, 2) := by decide +kernel
theorem dX2_common_44 : decode cX2_common 44 = .ok (.iload 5, 2) := by decide +kernel
theorem dX2_common_46 : decode cX2_common 46 = .ok (.iconst 3, 1) := by decide +kernel
theorem dX2_common_47 : decode cX2_common 47 = .ok (.if_icmp .ge 105, 3) := by decide +kernel
theorem dX2_common_50 : decode cX2_common 50 = .ok (.aload_n 0, 1) := by decide +kernel
theorem dX2_common_51 : decode cX2_common 51 = .ok (.iload_n 1, 1) := by decide +kernel
theorem dX2_common_52 : decode cX2_common 52 = .ok (.iload 5, 2) := by decide +kernel
theorem dX2_common_54 : decode cX2_common 54 = .ok (.iconst 0, 1) := by decide +kernel
theorem dX2_common_55 : decode cX2_common 55 = .ok (.iconst 0, 1) := by decide +kernel
theorem dX2_common_56 : decode cX2_common 56 = .ok (.invokevirtual 90, 3) := by decide +kernel
theorem dX2_common_59 : decode cX2_common 59 = .ok (.istore 6, 2) := by decide +kernel
theorem dX2_common_61 : decode cX2_common 61 = .ok (.aload_n 0, 1) := by decide +kernel
theorem dX2_common_62 : decode cX2_common 62 = .ok (.iload_n 2, 1) := by decide +kernel
theorem dX2_common_63 : decode cX2_common 63 = .ok (.iload 5, 2) := by decide +kernel
theorem dX2_common_65 : decode cX2_common 65 = .ok (.iconst 0, 1) := by decide +kernel
theorem dX2_common_66 : decode cX2_common 66 = .ok (.iconst 0, 1) := by decide +kernel
theorem dX2_common_67 : decode cX2_common 67 = .ok (.invokevirtual 90, 3) := by decide +kernel
theorem dX2_common_70 : decode cX2_common 70 = .ok (.istore 7, 2) := by decide +kernel
theorem dX2_common_72 : decode cX2_common 72 = .ok (.aload_n 0, 1) := by decide +kernel
theorem dX2_common_73 : decode cX2_common 73 = .ok (.iload_n 1, 1) := by decide +kernel
theorem dX2_common_74 : decode cX2_common 74 = .ok (.iload 5, 2) := by decide +kernel
theorem dX2_common_76 : decode cX2_common 76 = .ok (.iconst 1, 1) := by decide +kernel
theorem dX2_common_77 : decode cX2_common 77 = .ok (.iconst 0, 1) := by decide +kernel
theorem dX2_common_78 : decode cX2_common 78 = .ok (.invokevirtual 90, 3) := by decide +kernel
theorem dX2_common_81 : decode cX2_common 81 = .ok (.istore 8, 2) := by decide +kernel
theorem dX2_common_83 : decode cX2_common 83 = .ok (.aload_n 0, 1) := by decide +kernel
theorem dX2_common_84 : decode cX2_common 84 = .ok (.iload_n 2, 1) := by decide +kernel
theorem dX2_common_85 : decode cX2_common 85 = .ok (.iload 5, 2) := by decide +kernel
theorem dX2_common_87 : decode cX2_common 87 = .ok (.iconst 1, 1) := by decide +kernel
theorem dX2_common_88 : decode cX2_common 88 = .ok (.iconst 0, 1) := by decide +kernel
theorem dX2_common_89 : decode cX2_common 89 = .ok (.invokevirtual 90, 3) := by decide +kernel
theorem dX2_common_92 : decode cX2_common 92 = .ok (.istore 9, 2) := by decide +kernel
theorem dX2_common_94 : decode cX2_common 94 = .ok (.iload 6, 2) := by decide +kernel
theorem dX2_common_96 : decode cX2_common 96 = .ok (.iload 7, 2) := by decide +kernel
theorem dX2_common_98 : decode cX2_common 98 = .ok (.if_icmp .le 8, 3) := by decide +kernel
theorem dX2_common_101 : decode cX2_common 101 = .ok (.iload 6, 2) := by decide +kernel
theorem dX2_common_103 : decode cX2_common 103 = .ok (.goto 5, 3) := by decide +kernel
theorem dX2_common_106 : decode cX2_common 106 = .ok (.iload 7, 2) := by decide +kernel
theorem dX2_common_108 : decode cX2_common 108 = .ok (.istore 10, 2) := by decide +kernel
theorem dX2_common_110 : decode cX2_common 110 = .ok (.iload 8, 2) := by decide +kernel
theorem dX2_common_112 : decode cX2_common 112 = .ok (.iload 9, 2) := by decide +kernel
theorem dX2_common_114 : decode cX2_common 114 = .ok (.if_icmp .ge 8, 3) := by decide +kernel
theorem dX2_common_117 : decode cX2_common 117 = .ok (.iload 8, 2) := by decide +kernel
theorem dX2_common_119 : decode cX2_common 119 = .ok (.goto 5, 3) := by decide +kernel
theorem dX2_common_122 : decode cX2_common 122 = .ok (.iload 9, 2) := by decide +kernel
theorem dX2_common_124 : decode cX2_common 124 = .ok (.istore 11, 2) := by decide +kernel
theorem dX2_common_126 : decode cX2_common 126 = .ok (.lload_n 3, 1) := by decide +kernel
theorem dX2_common_127 : decode cX2_common 127 = .ok (.iload 11, 2) := by decide +kernel
theorem dX2_common_129 : decode cX2_common 129 = .ok (.iload 10, 2) := by decide +kernel
theorem dX2_common_131 : decode cX2_common 131 = .ok (.if_icmp .le 12, 3) := by decide +kernel
theorem dX2_common_134 : decode cX2_common 134 = .ok (.iload 11, 2) := by decide +kernel
theorem dX2_common_136 : decode cX2_common 136 = .ok (.iload 10, 2) := by decide +kernel
theorem dX2_common_138 : decode cX2_common 138 = .ok (.isub, 1) := by decide +kernel
theorem dX2_common_139 : decode cX2_common 139 = .ok (.i2l, 1) := by decide +kernel
theorem dX2_common_140 : decode cX2_common 140 = .ok (.goto 4, 3) := by decide +kernel
theorem dX2_common_143 : decode cX2_common 143 = .ok (.lconst 0, 1) := by decide +kernel
theorem dX2_common_144 : decode cX2_common 144 = .ok (.lmul, 1) := by decide +kernel
theorem dX2_common_145 : decode cX2_common 145 = .ok (.lstore_n 3, 1) := by decide +kernel
theorem dX2_common_146 : decode cX2_common 146 = .ok (.iinc 5 1, 3) := by decide +kernel
theorem dX2_common_149 : decode cX2_common 149 = .ok (.goto (-105), 3) := by decide +kernel
theorem dX2_common_152 : decode cX2_common 152 = .ok (.lload_n 3, 1) := by decide +kernel
theorem dX2_common_153 : decode cX2_common 153 = .ok (.lreturn, 1) := by decide +kernel
set_option maxRecDepth 20000 in
theorem ggX2_isEnds_X2_isIn : GoodIn wsX2_isEnds wsX2_isIn := goodIn_r _ [4] (by decide +kernel) (by decide +kernel)
set_option maxRecDepth 20000 in
theorem gX2_isEnds_X2_isIn : GoodIn wsX2_isEnds (va_wsS RX2 45 yX2_isIn wsX2_isIn) := goodIn_app (goodIn_of _ (by decide +kernel)) ggX2_isEnds_X2_isIn
theorem dX2_isEnds_0 : decode cX2_isEnds 0 = .ok (.iload_n 0, 1) := by decide +kernel
theorem dX2_isEnds_1 : decode cX2_isEnds 1 = .ok (.sipush (-2000), 3) := by decide +kernel
theorem dX2_isEnds_4 : decode cX2_isEnds 4 = .ok (.sipush 2000, 3) := by decide +kernel
theorem dX2_isEnds_7 : decode cX2_isEnds 7 = .ok (.invokestatic 45, 3) := by decide +kernel
theorem dX2_isEnds_10 : decode cX2_isEnds 10 = .ok (.ifCond .eq 25, 3) := by decide +kernel
theorem dX2_isEnds_13 : decode cX2_isEnds 13 = .ok (.iload_n 1, 1) := by decide +kernel
theorem dX2_isEnds_14 : decode cX2_isEnds 14 = .ok (.sipush (-2000), 3) := by decide +kernel
theorem dX2_isEnds_17 : decode cX2_isEnds 17 = .ok (.sipush 2000, 3) := by decide +kernel
theorem dX2_isEnds_20 : decode cX2_isEnds 20 = .ok (.invokestatic 45, 3) := by decide +kernel
theorem dX2_isEnds_23 : decode cX2_isEnds 23 = .ok (.ifCond .eq 12, 3) := by decide +kernel
theorem dX2_isEnds_26 : decode cX2_isEnds 26 = .ok (.iload_n 1, 1) := by decide +kernel
theorem dX2_isEnds_27 : decode cX2_isEnds 27 = .ok (.iload_n 0, 1) := by decide +kernel
theorem dX2_isEnds_28 : decode cX2_isEnds 28 = .ok (.if_icmp .le 7, 3) := by decide +kernel
theorem dX2_isEnds_31 : decode cX2_isEnds 31 = .ok (.iconst 1, 1) := by decide +kernel
theorem dX2_isEnds_32 : decode cX2_isEnds 32 = .ok (.goto 4, 3) := by decide +kernel
theorem dX2_isEnds_35 : decode cX2_isEnds 35 = .ok (.iconst 0, 1) := by decide +kernel
theorem dX2_isEnds_36 : decode cX2_isEnds 36 = .ok (.ireturn, 1) := by decide +kernel
set_option maxRecDepth 20000 in
theorem ggX2_inside_X2_isEnds : GoodIn wsX2_inside wsX2_isEnds := goodIn_r _ [7, 8, 9, 6, 10] (by decide +kernel) (by decide +kernel)
set_option maxRecDepth 20000 in
theorem gX2_inside_X2_isEnds : GoodIn wsX2_inside (va_wsS RX2 116 yX2_isEnds wsX2_isEnds) := goodIn_app (goodIn_of _ (by decide +kernel)) ggX2_inside_X2_isEnds
set_option maxRecDepth 20000 in
theorem ggX2_inside_X2_hullEnd : GoodIn wsX2_inside wsX2_hullEnd := goodIn_r _ [14, 15, 16, 17, 18, 19, 6, 20, 21, 22, 23, 24, 25, 29, 30, 31, 32, 33, 34, 35, 36, 37, 38, 39, 40, 41, 42, 43] (by decide +kernel) (by decide +kernel)
set_option maxRecDepth 20000 in
theorem gX2_inside_X2_hullEnd : GoodIn wsX2_inside (wsV RX2 90 RX2 yX2_hullEnd wsX2_hullEnd) := goodIn_app (goodIn_of _ (by decide +kernel)) ggX2_inside_X2_hullEnd
set_option maxRecDepth 20000 in
theorem ggX2_inside_X2_overlaps : GoodIn wsX2_inside wsX2_overlaps := goodIn_r _ [28] (by decide +kernel) (by decide +kernel)
set_option maxRecDepth 20000 in
theorem gX2_inside_X2_overlaps : GoodIn wsX2_inside (va_wsS RX2 93 yX2_overlaps wsX2_overlaps) := goodIn_app (goodIn_of _ (by decide +kernel)) ggX2_inside_X2_overlaps
theorem dX2_inside_0 : decode cX2_inside 0 = .ok (.aload_n 0, 1) := by decide +kernel
theorem dX2_inside_1 : decode cX2_inside 1 = .ok (.iload_n 1, 1) := by decide +kernel
theorem dX2_inside_2 : decode cX2_inside 2 = .ok (.iload 4, 2) := by decide +kernel
theorem dX2_inside_4 : decode cX2_inside 4 = .ok (.invokestatic 116, 3) := by decide +kernel
theorem dX2_inside_7 : decode cX2_inside 7 = .ok (.ifCond .eq 26, 3) := by decide +kernel
theorem dX2_inside_10 : decode cX2_inside 10 = .ok (.iload_n 2, 1) := by decide +kernel
theorem dX2_inside_11 : decode cX2_inside 11 = .ok (.iload 5, 2) := by decide +kernel
theorem dX2_inside_13 : decode cX2_inside 13 = .ok (.invokestatic 116, 3) := by decide +kernel
theorem dX2_inside_16 : decode cX2_inside 16 = .ok (.ifCond .eq 17, 3) := by decide +kernel
theorem dX2_inside_19 : decode cX2_inside 19 = .ok (.iload_n 3, 1) := by decide +kernel
theorem dX2_inside_20 : decode cX2_inside 20 = .ok (.iload 6, 2) := by decide +kernel
theorem dX2_inside_22 : decode cX2_inside 22 = .ok (.invokestatic 116, 3) := by decide +kernel
theorem dX2_inside_25 : decode cX2_inside 25 = .ok (.ifCond .eq 8, 3) := by decide +kernel
theorem dX2_inside_28 : decode cX2_inside 28 = .ok (.iload 7, 2) := by decide +kernel
theorem dX2_inside_30 : decode cX2_inside 30 = .ok (.ifCond .ge 7, 3) := by decide +kernel
theorem dX2_inside_33 : decode cX2_inside 33 = .ok (.iconst 1, 1) := by decide +kernel
theorem dX2_inside_34 : decode cX2_inside 34 = .ok (.goto 4, 3) := by decide +kernel
theorem dX2_inside_37 : decode cX2_inside 37 = .ok (.iconst 0, 1) := by decide +kernel
theorem dX2_inside_38 : decode cX2_inside 38 = .ok (.putfield 42, 3) := by decide +kernel
theorem dX2_inside_41 : decode cX2_inside 41 = .ok (.aload_n 0, 1) := by decide +kernel
theorem dX2_inside_42 : decode cX2_inside 42 = .ok (.getfield 42, 3) := by decide +kernel
theorem dX2_inside_45 : decode cX2_inside 45 = .ok (.ifCond .le 5, 3) := by decide +kernel
theorem dX2_inside_48 : decode cX2_inside 48 = .ok (.iconst 0, 1) := by decide +kernel
theorem dX2_inside_49 : decode cX2_inside 49 = .ok (.ireturn, 1) := by decide +kernel
theorem dX2_inside_50 : decode cX2_inside 50 = .ok (.iconst 0, 1) := by decide +kernel
theorem dX2_inside_51 : decode cX2_inside 51 = .ok (.istore 8, 2) := by decide +kernel
theorem dX2_inside_53 : decode cX2_inside 53 = .ok (.iconst 0, 1) := by decide +kernel
theorem dX2_inside_54 : decode cX2_inside 54 = .ok (.istore 9, 2) := by decide +kernel
theorem dX2_inside_56 : decode cX2_inside 56 = .ok (.iload 9, 2) := by decide +kernel
theorem dX2_inside_58 : decode cX2_inside 58 = .ok (.aload_n 0, 1) := by decide +kernel
theorem dX2_inside_59 : decode cX2_inside 59 = .ok (.getfield 49, 3) := by decide +kernel
theorem dX2_inside_62 : decode cX2_inside 62 = .ok (.if_icmp .ge 132, 3) := by decide +kernel
theorem dX2_inside_65 : decode cX2_inside 65 = .ok (.aload_n 0, 1) := by decide +kernel
theorem dX2_inside_66 : decode cX2_inside 66 = .ok (.getfield 7, 3) := by decide +kernel
theorem dX2_inside_69 : decode cX2_inside 69 = .ok (.iload 9, 2) := by decide +kernel
theorem dX2_inside_71 : decode cX2_inside 71 = .ok (.baload, 1) := by decide +kernel
theorem dX2_inside_72 : decode cX2_inside 72 = .ok (.istore 10, 2) := by decide +kernel
theorem dX2_inside_74 : decode cX2_inside 74 = .ok (.iconst 0, 1) := by decide +kernel
theorem dX2_inside_75 : decode cX2_inside 75 = .ok (.istore 11, 2) := by decide +kernel
theorem dX2_inside_77 : decode cX2_inside 77 = .ok (.iload 11, 2) := by decide +kernel
theorem dX2_inside_79 : decode cX2_inside 79 = .ok (.iconst 3, 1) := by decide +kernel
theorem dX2_inside_80 : decode cX2_inside 80 = .ok (.if_icmp .ge 90, 3) := by decide +kernel
theorem dX2_inside_83 : decode cX2_inside 83 = .ok (.iload 10, 2) := by decide +kernel
theorem dX2_inside_85 : decode cX2_inside 85 = .ok (.ifCond .eq 76, 3) := by decide +kernel
theorem dX2_inside_88 : decode cX2_inside 88 = .ok (.aload_n 0, 1) := by decide +kernel
theorem dX2_inside_89 : decode cX2_inside 89 = .ok (.iload 9, 2) := by decide +kernel
theorem dX2_inside_91 : decode cX2_inside 91 = .ok (.iload 11, 2) := by decide +kernel
theorem dX2_inside_93 : decode cX2_inside 93 = .ok (.iconst 0, 1) := by decide +kernel
theorem dX2_inside_94 : decode cX2_inside 94 = .ok (.iconst 0, 1) := by decide +kernel
theorem dX2_inside_95 : decode cX2_inside 95 = .ok (.invokevirtual 90, 3) := by decide +kernel
theorem dX2_inside_98 : decode cX2_inside 98 = .ok (.aload_n 0, 1) := by decide +kernel
theorem dX2_inside_99 : decode cX2_inside 99 = .ok (.iload 9, 2) := by decide +kernel
theorem dX2_inside_101 : decode cX2_inside 101 = .ok (.iload 11, 2) := by decide +kernel
theorem dX2_inside_103 : decode cX2_inside 103 = .ok (.iconst 1, 1) := by decide +kernel
theorem dX2_inside_104 : decode cX2_inside 104 = .ok (.iconst 0, 1) := by decide +kernel
theorem dX2_inside_105 : decode cX2_inside 105 = .ok (.invokevirtual 90, 3) := by decide +kernel
theorem dX2_inside_108 : decode cX2_inside 108 = .ok (.iload 11, 2) := by decide +kernel
theorem dX2_inside_110 : decode cX2_inside 110 = .ok (.ifCond .ne 7, 3) := by decide +kernel
theorem dX2_inside_113 : decode cX2_inside 113 = .ok (.iload_n 1, 1) := by decide +kernel
theorem dX2_inside_114 : decode cX2_inside 114 = .ok (.goto 14, 3) := by decide +kernel
theorem dX2_inside_117 : decode cX2_inside 117 = .ok (.iload 11, 2) := by decide +kernel
theorem dX2_inside_119 : decode cX2_inside 119 = .ok (.iconst 1, 1) := by decide +kernel
theorem dX2_inside_120 : decode cX2_inside 120 = .ok (.if_icmp .ne 7, 3) := by decide +kernel
theorem dX2_inside_123 : decode cX2_inside 123 = .ok (.iload_n 2, 1) := by decide +kernel
theorem dX2_inside_124 : decode cX2_inside 124 = .ok (.goto 4, 3) := by decide +kernel
theorem dX2_inside_127 : decode cX2_inside 127 = .ok (.iload_n 3, 1) := by decide +kernel
theorem dX2_inside_128 : decode cX2_inside 128 = .ok (.iload 11, 2) := by decide +kernel
theorem dX2_inside_130 : decode cX2_inside 130 = .ok (.ifCond .ne 8, 3) := by decide +kernel
theorem dX2_inside_133 : decode cX2_inside 133 = .ok (.iload 4, 2) := by decide +kernel
theorem dX2_inside_135 : decode cX2_inside 135 = .ok (.goto 16, 3) := by decide +kernel
theorem dX2_inside_138 : decode cX2_inside 138 = .ok (.iload 11, 2) := by decide +kernel
theorem dX2_inside_140 : decode cX2_inside 140 = .ok (.iconst 1, 1) := by decide +kernel
theorem dX2_inside_141 : decode cX2_inside 141 = .ok (.if_icmp .ne 8, 3) := by decide +kernel
theorem dX2_inside_144 : decode cX2_inside 144 = .ok (.iload 5, 2) := by decide +kernel
theorem dX2_inside_146 : decode cX2_inside 146 = .ok (.goto 5, 3) := by decide +kernel
theorem dX2_inside_149 : decode cX2_inside 149 = .ok (.iload 6, 2) := by decide +kernel
theorem dX2_inside_151 : decode cX2_inside 151 = .ok (.invokestatic 93, 3) := by decide +kernel
theorem dX2_inside_154 : decode cX2_inside 154 = .ok (.ifCond .eq 7, 3) := by decide +kernel
theorem dX2_inside_157 : decode cX2_inside 157 = .ok (.iconst 1, 1) := by decide +kernel
theorem dX2_inside_158 : decode cX2_inside 158 = .ok (.goto 4, 3) := by decide +kernel
theorem dX2_inside_161 : decode cX2_inside 161 = .ok (.iconst 0, 1) := by decide +kernel
theorem dX2_inside_162 : decode cX2_inside 162 = .ok (.istore 10, 2) := by decide +kernel
theorem dX2_inside_164 : decode cX2_inside 164 = .ok (.iinc 11 1, 3) := by decide +kernel
theorem dX2_inside_167 : decode cX2_inside 167 = .ok (.goto (-90), 3) := by decide +kernel
theorem dX2_inside_170 : decode cX2_inside 170 = .ok (.iload 10, 2) := by decide +kernel
theorem dX2_inside_172 : decode cX2_inside 172 = .ok (.ifCond .eq 16, 3) := by decide +kernel
theorem dX2_inside_175 : decode cX2_inside 175 = .ok (.iload 8, 2) := by decide +kernel
theorem dX2_inside_177 : decode cX2_inside 177 = .ok (.iload 7, 2) := by decide +kernel
theorem dX2_inside_179 : decode cX2_inside 179 = .ok (.if_icmp .ne 6, 3) := by decide +kernel
theorem dX2_inside_182 : decode cX2_inside 182 = .ok (.iload 9, 2) := by decide +kernel
theorem dX2_inside_184 : decode cX2_inside 184 = .ok (.ireturn, 1) := by decide +kernel
theorem dX2_inside_185 : decode cX2_inside 185 = .ok (.iinc 8 1, 3) := by decide +kernel
theorem dX2_inside_188 : decode cX2_inside 188 = .ok (.iinc 9 1, 3) := by decide +kernel
theorem dX2_inside_191 : decode cX2_inside 191 = .ok (.goto (-135), 3) := by decide +kernel
theorem dX2_inside_194 : decode cX2_inside 194 = .ok (.iconst (-1), 1) := by decide +kernel
theorem dX2_inside_195 : decode cX2_inside 195 = .ok (.ireturn, 1) := by decide +kernel
set_option maxRecDepth 20000 in
theorem ggX2_isFreeAt_X2_mayMove : GoodIn wsX2_isFreeAt wsX2_mayMove := goodIn_r _ [12, 13, 14, 43, 44, 45, 46, 47, 48, 49, 50, 51, 52, 53, 54, 55, 56, 57] (by decide +kernel) (by decide +kernel)
set_option maxRecDepth 20000 in
theorem gX2_isFreeAt_X2_mayMove : GoodIn wsX2_isFreeAt (wsV RX2 77 RX2 yX2_mayMove wsX2_mayMove) := goodIn_app (goodIn_of _ (by decide +kernel)) ggX2_isFreeAt_X2_mayMove
set_option maxRecDepth 20000 in
theorem ggX2_isFreeAt_X2_meets : GoodIn wsX2_isFreeAt wsX2_meets := goodIn_r _ [18, 19, 20, 21, 22, 23, 11, 24, 25, 26, 27, 28, 29, 30, 31, 32, 14, 13, 1, 2, 3, 33, 34, 35, 36, 37, 38, 39, 40, 41, 42, 43, 44, 45, 46, 47, 48, 49, 50, 51, 52, 53, 54, 55, 56, 57] (by decide +kernel) (by decide +kernel)
set_option maxRecDepth 20000 in
theorem gX2_isFreeAt_X2_meets : GoodIn wsX2_isFreeAt (wsV RX2 106 RX2 yX2_meets wsX2_meets) := goodIn_app (goodIn_of _ (by decide +kernel)) ggX2_isFreeAt_X2_meets
theorem dX2_isFreeAt_0 : decode cX2_isFreeAt 0 = .ok (.aload_n 0, 1) := by decide +kernel
theorem dX2_isFreeAt_1 : decode cX2_isFreeAt 1 = .ok (.iload_n 1, 1) := by decide +kernel
theorem dX2_isFreeAt_2 : decode cX2_isFreeAt 2 = .ok (.iload_n 2, 1) := by decide +kernel
theorem dX2_isFreeAt_3 : decode cX2_isFreeAt 3 = .ok (.iload_n 3, 1) := by decide +kernel
theorem dX2_isFreeAt_4 : decode cX2_isFreeAt 4 = .ok (.invokevirtual 77, 3) := by decide +kernel
theorem dX2_isFreeAt_7 : decode cX2_isFreeAt 7 = .ok (.ifCond .ne 5, 3) := by decide +kernel
theorem dX2_isFreeAt_10 : decode cX2_isFreeAt 10 = .ok (.iconst 0, 1) := by decide +kernel
theorem dX2_isFreeAt_11 : decode cX2_isFreeAt 11 = .ok (.ireturn, 1) := by decide +kernel
theorem dX2_isFreeAt_12 : decode cX2_isFreeAt 12 = .ok (.aload_n 0, 1) := by decide +kernel
theorem dX2_isFreeAt_13 : decode cX2_isFreeAt 13 = .ok (.iload_n 1, 1) := by decide +kernel
theorem dX2_isFreeAt_14 : decode cX2_isFreeAt 14 = .ok (.putfield 38, 3) := by decide +kernel
theorem dX2_isFreeAt_17 : decode cX2_isFreeAt 17 = .ok (.aload_n 0, 1) := by decide +kernel
theorem dX2_isFreeAt_18 : decode cX2_isFreeAt 18 = .ok (.iload_n 2, 1) := by decide +kernel
theorem dX2_isFreeAt_19 : decode cX2_isFreeAt 19 = .ok (.putfield 80, 3) := by decide +kernel
theorem dX2_isFreeAt_22 : decode cX2_isFreeAt 22 = .ok (.aload_n 0, 1) := by decide +kernel
theorem dX2_isFreeAt_23 : decode cX2_isFreeAt 23 = .ok (.iload_n 3, 1) := by decide +kernel
theorem dX2_isFreeAt_24 : decode cX2_isFreeAt 24 = .ok (.putfield 83, 3) := by decide +kernel
theorem dX2_isFreeAt_27 : decode cX2_isFreeAt 27 = .ok (.iconst 1, 1) := by decide +kernel
theorem dX2_isFreeAt_28 : decode cX2_isFreeAt 28 = .ok (.istore 4, 2) := by decide +kernel
theorem dX2_isFreeAt_30 : decode cX2_isFreeAt 30 = .ok (.iconst 0, 1) := by decide +kernel
theorem dX2_isFreeAt_31 : decode cX2_isFreeAt 31 = .ok (.istore 5, 2) := by decide +kernel
theorem dX2_isFreeAt_33 : decode cX2_isFreeAt 33 = .ok (.iload 5, 2) := by decide +kernel
theorem dX2_isFreeAt_35 : decode cX2_isFreeAt 35 = .ok (.aload_n 0, 1) := by decide +kernel
theorem dX2_isFreeAt_36 : decode cX2_isFreeAt 36 = .ok (.getfield 49, 3) := by decide +kernel
theorem dX2_isFreeAt_39 : decode cX2_isFreeAt 39 = .ok (.if_icmp .ge 73, 3) := by decide +kernel
theorem dX2_isFreeAt_42 : decode cX2_isFreeAt 42 = .ok (.iload 4, 2) := by decide +kernel
theorem dX2_isFreeAt_44 : decode cX2_isFreeAt 44 = .ok (.ifCond .eq 68, 3) := by decide +kernel
theorem dX2_isFreeAt_47 : decode cX2_isFreeAt 47 = .ok (.iload 5, 2) := by decide +kernel
theorem dX2_isFreeAt_49 : decode cX2_isFreeAt 49 = .ok (.iload_n 1, 1) := by decide +kernel
theorem dX2_isFreeAt_50 : decode cX2_isFreeAt 50 = .ok (.if_icmp .eq 49, 3) := by decide +kernel
theorem dX2_isFreeAt_53 : decode cX2_isFreeAt 53 = .ok (.aload_n 0, 1) := by decide +kernel
theorem dX2_isFreeAt_54 : decode cX2_isFreeAt 54 = .ok (.getfield 7, 3) := by decide +kernel
theorem dX2_isFreeAt_57 : decode cX2_isFreeAt 57 = .ok (.iload 5, 2) := by decide +kernel
theorem dX2_isFreeAt_59 : decode cX2_isFreeAt 59 = .ok (.baload, 1) := by decide +kernel
theorem dX2_isFreeAt_60 : decode cX2_isFreeAt 60 = .ok (.ifCond .eq 39, 3) := by decide +kernel
theorem dX2_isFreeAt_63 : decode cX2_isFreeAt 63 = .ok (.aload_n 0, 1) := by decide +kernel
theorem dX2_isFreeAt_64 : decode cX2_isFreeAt 64 = .ok (.getfield 32, 3) := by decide +kernel
theorem dX2_isFreeAt_67 : decode cX2_isFreeAt 67 = .ok (.bipush 8, 2) := by decide +kernel
theorem dX2_isFreeAt_69 : decode cX2_isFreeAt 69 = .ok (.aload_n 0, 1) := by decide +kernel
theorem dX2_isFreeAt_70 : decode cX2_isFreeAt 70 = .ok (.getfield 13, 3) := by decide +kernel
theorem dX2_isFreeAt_73 : decode cX2_isFreeAt 73 = .ok (.iload_n 1, 1) := by decide +kernel
theorem dX2_isFreeAt_74 : decode cX2_isFreeAt 74 = .ok (.iaload, 1) := by decide +kernel
theorem dX2_isFreeAt_75 : decode cX2_isFreeAt 75 = .ok (.imul, 1) := by decide +kernel
theorem dX2_isFreeAt_76 : decode cX2_isFreeAt 76 = .ok (.aload_n 0, 1) := by decide +kernel
theorem dX2_isFreeAt_77 : decode cX2_isFreeAt 77 = .ok (.getfield 13, 3) := by decide +kernel
theorem dX2_isFreeAt_80 : decode cX2_isFreeAt 80 = .ok (.iload 5, 2) := by decide +kernel
theorem dX2_isFreeAt_82 : decode cX2_isFreeAt 82 = .ok (.iaload, 1) := by decide +kernel
theorem dX2_isFreeAt_83 : decode cX2_isFreeAt 83 = .ok (.iadd, 1) := by decide +kernel
theorem dX2_isFreeAt_84 : decode cX2_isFreeAt 84 = .ok (.baload, 1) := by decide +kernel
theorem dX2_isFreeAt_85 : decode cX2_isFreeAt 85 = .ok (.ifCond .ne 14, 3) := by decide +kernel
theorem dX2_isFreeAt_88 : decode cX2_isFreeAt 88 = .ok (.aload_n 0, 1) := by decide +kernel
theorem dX2_isFreeAt_89 : decode cX2_isFreeAt 89 = .ok (.iload_n 1, 1) := by decide +kernel
theorem dX2_isFreeAt_90 : decode cX2_isFreeAt 90 = .ok (.iconst 0, 1) := by decide +kernel
theorem dX2_isFreeAt_91 : decode cX2_isFreeAt 91 = .ok (.iload 5, 2) := by decide +kernel
theorem dX2_isFreeAt_93 : decode cX2_isFreeAt 93 = .ok (.invokevirtual 106, 3) := by decide +kernel
theorem dX2_isFreeAt_96 : decode cX2_isFreeAt 96 = .ok (.ifCond .ne 7, 3) := by decide +kernel
theorem dX2_isFreeAt_99 : decode cX2_isFreeAt 99 = .ok (.iconst 1, 1) := by decide +kernel
theorem dX2_isFreeAt_100 : decode cX2_isFreeAt 100 = .ok (.goto 4, 3) := by decide +kernel
theorem dX2_isFreeAt_103 : decode cX2_isFreeAt 103 = .ok (.iconst 0, 1) := by decide +kernel
theorem dX2_isFreeAt_104 : decode cX2_isFreeAt 104 = .ok (.istore 4, 2) := by decide +kernel
theorem dX2_isFreeAt_106 : decode cX2_isFreeAt 106 = .ok (.iinc 5 1, 3) := by decide +kernel
theorem dX2_isFreeAt_109 : decode cX2_isFreeAt 109 = .ok (.goto (-76), 3) := by decide +kernel
theorem dX2_isFreeAt_112 : decode cX2_isFreeAt 112 = .ok (.aload_n 0, 1) := by decide +kernel
theorem dX2_isFreeAt_113 : decode cX2_isFreeAt 113 = .ok (.iconst (-1), 1) := by decide +kernel
theorem dX2_isFreeAt_114 : decode cX2_isFreeAt 114 = .ok (.putfield 38, 3) := by decide +kernel
theorem dX2_isFreeAt_117 : decode cX2_isFreeAt 117 = .ok (.iload 4, 2) := by decide +kernel
theorem dX2_isFreeAt_119 : decode cX2_isFreeAt 119 = .ok (.ireturn, 1) := by decide +kernel
set_option maxRecDepth 20000 in
theorem ggX2_shift_X2_isPart : GoodIn wsX2_shift wsX2_isPart := goodIn_r _ [6, 7, 8, 9, 10, 5, 11, 58, 59, 60, 61, 62, 63, 64, 65, 66, 67, 68, 69, 70, 71, 72] (by decide +kernel) (by decide +kernel)
set_option maxRecDepth 20000 in
theorem gX2_shift_X2_isPart : GoodIn wsX2_shift (wsV RX2 74 RX2 yX2_isPart wsX2_isPart) := goodIn_app (goodIn_of _ (by decide +kernel)) ggX2_shift_X2_isPart
set_option maxRecDepth 20000 in
theorem ggX2_shift_X2_isAxis : GoodIn wsX2_shift wsX2_isAxis := goodIn_r _ [14, 9, 10, 5, 11] (by decide +kernel) (by decide +kernel)
set_option maxRecDepth 20000 in
theorem gX2_shift_X2_isAxis : GoodIn wsX2_shift (va_wsS RX2 71 yX2_isAxis wsX2_isAxis) := goodIn_app (goodIn_of _ (by decide +kernel)) ggX2_shift_X2_isAxis
set_option maxRecDepth 20000 in
theorem ggX2_shift_X2_isIn : GoodIn wsX2_shift wsX2_isIn := goodIn_r _ [11] (by decide +kernel) (by decide +kernel)
set_option maxRecDepth 20000 in
theorem gX2_shift_X2_isIn : GoodIn wsX2_shift (va_wsS RX2 45 yX2_isIn wsX2_isIn) := goodIn_app (goodIn_of _ (by decide +kernel)) ggX2_shift_X2_isIn
set_option maxRecDepth 20000 in
theorem ggX2_shift_X2_isFreeAt : GoodIn wsX2_shift wsX2_isFreeAt := goodIn_r _ [18, 19, 20, 21, 7, 8, 22, 23, 24, 25, 26, 5, 27, 28, 29, 30, 31, 32, 33, 34, 35, 36, 37, 38, 39, 40, 41, 42, 43, 44, 45, 46, 47, 48, 49, 50, 51, 52, 53, 54, 55, 56, 57, 58, 59, 60, 61, 62, 63, 64, 65, 66, 67, 68, 69, 70, 71, 72] (by decide +kernel) (by decide +kernel)
set_option maxRecDepth 20000 in
theorem gX2_shift_X2_isFreeAt : GoodIn wsX2_shift (wsV RX2 119 RX2 yX2_isFreeAt wsX2_isFreeAt) := goodIn_app (goodIn_of _ (by decide +kernel)) ggX2_shift_X2_isFreeAt
theorem dX2_shift_0 : decode cX2_shift 0 = .ok (.aload_n 0, 1) := by decide +kernel
theorem dX2_shift_1 : decode cX2_shift 1 = .ok (.aload_n 0, 1) := by decide +kernel
theorem dX2_shift_2 : decode cX2_shift 2 = .ok (.iload_n 1, 1) := by decide +kernel
theorem dX2_shift_3 : decode cX2_shift 3 = .ok (.invokevirtual 74, 3) := by decide +kernel
theorem dX2_shift_6 : decode cX2_shift 6 = .ok (.ifCond .eq 21, 3) := by decide +kernel
theorem dX2_shift_9 : decode cX2_shift 9 = .ok (.iload_n 2, 1) := by decide +kernel
theorem dX2_shift_10 : decode cX2_shift 10 = .ok (.invokestatic 71, 3) := by decide +kernel
theorem dX2_shift_13 : decode cX2_shift 13 = .ok (.ifCond .eq 14, 3) := by decide +kernel
theorem dX2_shift_16 : decode cX2_shift 16 = .ok (.iload_n 3, 1) := by decide +kernel
theorem dX2_shift_17 : decode cX2_shift 17 = .ok (.iconst 0, 1) := by decide +kernel
theorem dX2_shift_18 : decode cX2_shift 18 = .ok (.sipush 1000, 3) := by decide +kernel
theorem dX2_shift_21 : decode cX2_shift 21 = .ok (.invokestatic 45, 3) := by decide +kernel
theorem dX2_shift_24 : decode cX2_shift 24 = .ok (.ifCond .ne 7, 3) := by decide +kernel
theorem dX2_shift_27 : decode cX2_shift 27 = .ok (.iconst 1, 1) := by decide +kernel
theorem dX2_shift_28 : decode cX2_shift 28 = .ok (.goto 4, 3) := by decide +kernel
theorem dX2_shift_31 : decode cX2_shift 31 = .ok (.iconst 0, 1) := by decide +kernel
theorem dX2_shift_32 : decode cX2_shift 32 = .ok (.putfield 42, 3) := by decide +kernel
theorem dX2_shift_35 : decode cX2_shift 35 = .ok (.aload_n 0, 1) := by decide +kernel
theorem dX2_shift_36 : decode cX2_shift 36 = .ok (.getfield 42, 3) := by decide +kernel
theorem dX2_shift_39 : decode cX2_shift 39 = .ok (.ifCond .le 5, 3) := by decide +kernel
theorem dX2_shift_42 : decode cX2_shift 42 = .ok (.iconst 0, 1) := by decide +kernel
theorem dX2_shift_43 : decode cX2_shift 43 = .ok (.ireturn, 1) := by decide +kernel
theorem dX2_shift_44 : decode cX2_shift 44 = .ok (.iconst 0, 1) := by decide +kernel
theorem dX2_shift_45 : decode cX2_shift 45 = .ok (.istore 4, 2) := by decide +kernel
theorem dX2_shift_47 : decode cX2_shift 47 = .ok (.iload 4, 2) := by decide +kernel
theorem dX2_shift_49 : decode cX2_shift 49 = .ok (.iload_n 3, 1) := by decide +kernel
theorem dX2_shift_50 : decode cX2_shift 50 = .ok (.if_icmp .gt 39, 3) := by decide +kernel
theorem dX2_shift_53 : decode cX2_shift 53 = .ok (.aload_n 0, 1) := by decide +kernel
theorem dX2_shift_54 : decode cX2_shift 54 = .ok (.iload_n 1, 1) := by decide +kernel
theorem dX2_shift_55 : decode cX2_shift 55 = .ok (.iload_n 2, 1) := by decide +kernel
theorem dX2_shift_56 : decode cX2_shift 56 = .ok (.iload 4, 2) := by decide +kernel
theorem dX2_shift_58 : decode cX2_shift 58 = .ok (.invokevirtual 119, 3) := by decide +kernel
theorem dX2_shift_61 : decode cX2_shift 61 = .ok (.ifCond .eq 6, 3) := by decide +kernel
theorem dX2_shift_64 : decode cX2_shift 64 = .ok (.iload 4, 2) := by decide +kernel
theorem dX2_shift_66 : decode cX2_shift 66 = .ok (.ireturn, 1) := by decide +kernel
theorem dX2_shift_67 : decode cX2_shift 67 = .ok (.aload_n 0, 1) := by decide +kernel
theorem dX2_shift_68 : decode cX2_shift 68 = .ok (.iload_n 1, 1) := by decide +kernel
theorem dX2_shift_69 : decode cX2_shift 69 = .ok (.iload_n 2, 1) := by decide +kernel
theorem dX2_shift_70 : decode cX2_shift 70 = .ok (.iload 4, 2) := by decide +kernel
theorem dX2_shift_72 : decode cX2_shift 72 = .ok (.ineg, 1) := by decide +kernel
theorem dX2_shift_73 : decode cX2_shift 73 = .ok (.invokevirtual 119, 3) := by decide +kernel
theorem dX2_shift_76 : decode cX2_shift 76 = .ok (.ifCond .eq 7, 3) := by decide +kernel
theorem dX2_shift_79 : decode cX2_shift 79 = .ok (.iload 4, 2) := by decide +kernel
theorem dX2_shift_81 : decode cX2_shift 81 = .ok (.ineg, 1) := by decide +kernel
theorem dX2_shift_82 : decode cX2_shift 82 = .ok (.ireturn, 1) := by decide +kernel
theorem dX2_shift_83 : decode cX2_shift 83 = .ok (.iinc 4 1, 3) := by decide +kernel
theorem dX2_shift_86 : decode cX2_shift 86 = .ok (.goto (-39), 3) := by decide +kernel
theorem dX2_shift_89 : decode cX2_shift 89 = .ok (.sipush (-10000), 3) := by decide +kernel
theorem dX2_shift_92 : decode cX2_shift 92 = .ok (.ireturn, 1) := by decide +kernel
set_option maxRecDepth 20000 in
theorem ggX2_hull_X2_isPart : GoodIn wsX2_hull wsX2_isPart := goodIn_r _ [6, 7, 8, 9, 10, 5, 11, 30, 31, 32, 33, 34, 35, 36, 37, 38, 39, 40, 41, 42, 43, 44] (by decide +kernel) (by decide +kernel)
set_option maxRecDepth 20000 in
theorem gX2_hull_X2_isPart : GoodIn wsX2_hull (wsV RX2 74 RX2 yX2_isPart wsX2_isPart) := goodIn_app (goodIn_of _ (by decide +kernel)) ggX2_hull_X2_isPart
set_option maxRecDepth 20000 in
theorem ggX2_hull_X2_isAxis : GoodIn wsX2_hull wsX2_isAxis := goodIn_r _ [14, 9, 10, 5, 11] (by decide +kernel) (by decide +kernel)
set_option maxRecDepth 20000 in
theorem gX2_hull_X2_isAxis : GoodIn wsX2_hull (va_wsS RX2 71 yX2_isAxis wsX2_isAxis) := goodIn_app (goodIn_of _ (by decide +kernel)) ggX2_hull_X2_isAxis
set_option maxRecDepth 20000 in
theorem ggX2_hull_X2_isIn : GoodIn wsX2_hull wsX2_isIn := goodIn_r _ [11] (by decide +kernel) (by decide +kernel)
set_option maxRecDepth 20000 in
theorem gX2_hull_X2_isIn : GoodIn wsX2_hull (va_wsS RX2 45 yX2_isIn wsX2_isIn) := goodIn_app (goodIn_of _ (by decide +kernel)) ggX2_hull_X2_isIn
set_option maxRecDepth 20000 in
theorem ggX2_hull_X2_hullEnd : GoodIn wsX2_hull wsX2_hullEnd := goodIn_r _ [18, 19, 20, 21, 22, 23, 5, 24, 25, 26, 27, 28, 29, 30, 31, 32, 33, 34, 35, 36, 37, 38, 39, 40, 41, 42, 43, 44] (by decide +kernel) (by decide +kernel)
set_option maxRecDepth 20000 in
theorem gX2_hull_X2_hullEnd : GoodIn wsX2_hull (wsV RX2 90 RX2 yX2_hullEnd wsX2_hullEnd) := goodIn_app (goodIn_of _ (by decide +kernel)) ggX2_hull_X2_hullEnd
theorem dX2_hull_0 : decode cX2_hull 0 = .ok (.aload_n 0, 1) := by decide +kernel
theorem dX2_hull_1 : decode cX2_hull 1 = .ok (.aload_n 0, 1) := by decide +kernel
theorem dX2_hull_2 : decode cX2_hull 2 = .ok (.iload_n 1, 1) := by decide +kernel
theorem dX2_hull_3 : decode cX2_hull 3 = .ok (.invokevirtual 74, 3) := by decide +kernel
theorem dX2_hull_6 : decode cX2_hull 6 = .ok (.ifCond .eq 19, 3) := by decide +kernel
theorem dX2_hull_9 : decode cX2_hull 9 = .ok (.iload_n 2, 1) := by decide +kernel
theorem dX2_hull_10 : decode cX2_hull 10 = .ok (.invokestatic 71, 3) := by decide +kernel
theorem dX2_hull_13 : decode cX2_hull 13 = .ok (.ifCond .eq 12, 3) := by decide +kernel
theorem dX2_hull_16 : decode cX2_hull 16 = .ok (.iload_n 3, 1) := by decide +kernel
theorem dX2_hull_17 : decode cX2_hull 17 = .ok (.iconst 0, 1) := by decide +kernel
theorem dX2_hull_18 : decode cX2_hull 18 = .ok (.iconst 1, 1) := by decide +kernel
theorem dX2_hull_19 : decode cX2_hull 19 = .ok (.invokestatic 45, 3) := by decide +kernel
theorem dX2_hull_22 : decode cX2_hull 22 = .ok (.ifCond .ne 7, 3) := by decide +kernel
theorem dX2_hull_25 : decode cX2_hull 25 = .ok (.iconst 1, 1) := by decide +kernel
theorem dX2_hull_26 : decode cX2_hull 26 = .ok (.goto 4, 3) := by decide +kernel
theorem dX2_hull_29 : decode cX2_hull 29 = .ok (.iconst 0, 1) := by decide +kernel
theorem dX2_hull_30 : decode cX2_hull 30 = .ok (.putfield 42, 3) := by decide +kernel
theorem dX2_hull_33 : decode cX2_hull 33 = .ok (.aload_n 0, 1) := by decide +kernel
theorem dX2_hull_34 : decode cX2_hull 34 = .ok (.getfield 42, 3) := by decide +kernel
theorem dX2_hull_37 : decode cX2_hull 37 = .ok (.ifCond .le 7, 3) := by decide +kernel
theorem dX2_hull_40 : decode cX2_hull 40 = .ok (.iconst 0, 1) := by decide +kernel
theorem dX2_hull_41 : decode cX2_hull 41 = .ok (.goto 20, 3) := by decide +kernel
theorem dX2_hull_44 : decode cX2_hull 44 = .ok (.aload_n 0, 1) := by decide +kernel
theorem dX2_hull_45 : decode cX2_hull 45 = .ok (.iload_n 1, 1) := by decide +kernel
theorem dX2_hull_46 : decode cX2_hull 46 = .ok (.iload_n 2, 1) := by decide +kernel
theorem dX2_hull_47 : decode cX2_hull 47 = .ok (.iload_n 3, 1) := by decide +kernel
theorem dX2_hull_48 : decode cX2_hull 48 = .ok (.iconst 1, 1) := by decide +kernel
theorem dX2_hull_49 : decode cX2_hull 49 = .ok (.if_icmp .ne 7, 3) := by decide +kernel
theorem dX2_hull_52 : decode cX2_hull 52 = .ok (.iconst 1, 1) := by decide +kernel
theorem dX2_hull_53 : decode cX2_hull 53 = .ok (.goto 4, 3) := by decide +kernel
theorem dX2_hull_56 : decode cX2_hull 56 = .ok (.iconst 0, 1) := by decide +kernel
theorem dX2_hull_57 : decode cX2_hull 57 = .ok (.iconst 0, 1) := by decide +kernel
theorem dX2_hull_58 : decode cX2_hull 58 = .ok (.invokevirtual 90, 3) := by decide +kernel
theorem dX2_hull_61 : decode cX2_hull 61 = .ok (.ireturn, 1) := by decide +kernel
theorem dX2_parts_0 : decode cX2_parts 0 = .ok (.aload_n 0, 1) := by decide +kernel
theorem dX2_parts_1 : decode cX2_parts 1 = .ok (.iconst 0, 1) := by decide +kernel
theorem dX2_parts_2 : decode cX2_parts 2 = .ok (.putfield 42, 3) := by decide +kernel
theorem dX2_parts_5 : decode cX2_parts 5 = .ok (.aload_n 0, 1) := by decide +kernel
theorem dX2_parts_6 : decode cX2_parts 6 = .ok (.getfield 52, 3) := by decide +kernel
theorem dX2_parts_9 : decode cX2_parts 9 = .ok (.ireturn, 1) := by decide +kernel
theorem dJ9_max_7cf53_0 : decode cJ9_max_7cf53 0 = .ok (.iload_n 0, 1) := by decide +kernel
theorem dJ9_max_7cf53_1 : decode cJ9_max_7cf53 1 = .ok (.iload_n 1, 1) := by decide +kernel
theorem dJ9_max_7cf53_2 : decode cJ9_max_7cf53 2 = .ok (.if_icmp .lt 7, 3) := by decide +kernel
theorem dJ9_max_7cf53_5 : decode cJ9_max_7cf53 5 = .ok (.iload_n 0, 1) := by decide +kernel
theorem dJ9_max_7cf53_6 : decode cJ9_max_7cf53 6 = .ok (.goto 4, 3) := by decide +kernel
theorem dJ9_max_7cf53_9 : decode cJ9_max_7cf53 9 = .ok (.iload_n 1, 1) := by decide +kernel
theorem dJ9_max_7cf53_10 : decode cJ9_max_7cf53 10 = .ok (.ireturn, 1) := by decide +kernel
theorem dJ9_min_7cf53_0 : decode cJ9_min_7cf53 0 = .ok (.iload_n 0, 1) := by decide +kernel
theorem dJ9_min_7cf53_1 : decode cJ9_min_7cf53 1 = .ok (.iload_n 1, 1) := by decide +kernel
theorem dJ9_min_7cf53_2 : decode cJ9_min_7cf53 2 = .ok (.if_icmp .gt 7, 3) := by decide +kernel
theorem dJ9_min_7cf53_5 : decode cJ9_min_7cf53 5 = .ok (.iload_n 0, 1) := by decide +kernel
theorem dJ9_min_7cf53_6 : decode cJ9_min_7cf53 6 = .ok (.goto 4, 3) := by decide +kernel
theorem dJ9_min_7cf53_9 : decode cJ9_min_7cf53 9 = .ok (.iload_n 1, 1) := by decide +kernel
theorem dJ9_min_7cf53_10 : decode cJ9_min_7cf53 10 = .ok (.ireturn, 1) := by decide +kernel
set_option maxRecDepth 20000 in
theorem ggL_box_X1_box : GoodIn wsL_box wsX1_box := goodIn_ca (goodIn_ca (goodIn_r _ [7, 8, 9, 10, 11, 12, 6, 13, 14, 15, 16, 17, 18, 19, 20, 21, 22, 23, 24, 25, 26, 27, 28, 29, 30, 31, 32, 33, 34, 35, 36, 37, 38, 39, 40, 41, 42, 43, 44, 45, 46, 47, 48, 49, 50, 51, 52, 53, 54, 55, 56, 57, 58, 59, 60, 61, 62, 63, 64, 65, 66, 67, 68] (by decide +kernel) (by decide +kernel)) (goodIn_sub (fun _ h => List.mem_cons_of_mem _ (List.mem_append_left _ (List.mem_append_right _ h))) (by decide +kernel))) (goodIn_sub (fun _ h => List.mem_cons_of_mem _ (List.mem_append_right _ h)) (by decide +kernel))
set_option maxRecDepth 20000 in
theorem gL_box_X1_box : GoodIn wsL_box (wsV RL 7 RX1 yX1_box wsX1_box) := goodIn_app (goodIn_of _ (by decide +kernel)) ggL_box_X1_box
theorem dL_box_0 : decode cL_box 0 = .ok (.aload 8, 2) := by decide +kernel
theorem dL_box_2 : decode cL_box 2 = .ok (.iconst 0, 1) := by decide +kernel
theorem dL_box_3 : decode cL_box 3 = .ok (.aload_n 0, 1) := by decide +kernel
theorem dL_box_4 : decode cL_box 4 = .ok (.iload_n 1, 1) := by decide +kernel
theorem dL_box_5 : decode cL_box 5 = .ok (.iload_n 2, 1) := by decide +kernel
theorem dL_box_6 : decode cL_box 6 = .ok (.iload_n 3, 1) := by decide +kernel
theorem dL_box_7 : decode cL_box 7 = .ok (.iload 4, 2) := by decide +kernel
theorem dL_box_9 : decode cL_box 9 = .ok (.iload 5, 2) := by decide +kernel
theorem dL_box_11 : decode cL_box 11 = .ok (.iload 6, 2) := by decide +kernel
theorem dL_box_13 : decode cL_box 13 = .ok (.iload 7, 2) := by decide +kernel
theorem dL_box_15 : decode cL_box 15 = .ok (.invokevirtual 7, 3) := by decide +kernel
theorem dL_box_18 : decode cL_box 18 = .ok (.i2l, 1) := by decide +kernel
theorem dL_box_19 : decode cL_box 19 = .ok (.lastore, 1) := by decide +kernel
theorem dL_box_20 : decode cL_box 20 = .ok (.goto 11, 3) := by decide +kernel
theorem dL_box_23 : decode cL_box 23 = .ok (.astore 9, 2) := by decide +kernel
theorem dL_box_25 : decode cL_box 25 = .ok (.iconst 1, 1) := by decide +kernel
theorem dL_box_26 : decode cL_box 26 = .ok (.ireturn, 1) := by decide +kernel
theorem dL_box_27 : decode cL_box 27 = .ok (.astore 9, 2) := by decide +kernel
theorem dL_box_29 : decode cL_box 29 = .ok (.iconst 2, 1) := by decide +kernel
theorem dL_box_30 : decode cL_box 30 = .ok (.ireturn, 1) := by decide +kernel
theorem dL_box_31 : decode cL_box 31 = .ok (.iconst 0, 1) := by decide +kernel
theorem dL_box_32 : decode cL_box 32 = .ok (.ireturn, 1) := by decide +kernel
set_option maxRecDepth 20000 in
theorem ggL_tube_X1_tube : GoodIn wsL_tube wsX1_tube := goodIn_ca (goodIn_ca (goodIn_r _ [7, 8, 9, 10, 11, 12, 6, 13, 14, 15, 16, 17, 18, 19, 20, 21, 22, 23, 24, 25, 26, 27, 28, 29, 30, 31, 32, 33, 34, 35, 36, 37, 38, 39, 40, 41, 42, 43, 44, 45, 46, 47, 48, 49, 50, 51, 52, 53, 54, 55, 56, 57, 58, 59, 60, 61, 62, 63, 64, 65, 66, 67, 68, 69, 70, 71] (by decide +kernel) (by decide +kernel)) (goodIn_sub (fun _ h => List.mem_cons_of_mem _ (List.mem_append_left _ (List.mem_append_right _ h))) (by decide +kernel))) (goodIn_sub (fun _ h => List.mem_cons_of_mem _ (List.mem_append_right _ h)) (by decide +kernel))
set_option maxRecDepth 20000 in
theorem gL_tube_X1_tube : GoodIn wsL_tube (wsV RL 17 RX1 yX1_tube wsX1_tube) := goodIn_app (goodIn_of _ (by decide +kernel)) ggL_tube_X1_tube
theorem dL_tube_0 : decode cL_tube 0 = .ok (.aload 8, 2) := by decide +kernel
theorem dL_tube_2 : decode cL_tube 2 = .ok (.iconst 0, 1) := by decide +kernel
theorem dL_tube_3 : decode cL_tube 3 = .ok (.aload_n 0, 1) := by decide +kernel
theorem dL_tube_4 : decode cL_tube 4 = .ok (.iload_n 1, 1) := by decide +kernel
theorem dL_tube_5 : decode cL_tube 5 = .ok (.iload_n 2, 1) := by decide +kernel
theorem dL_tube_6 : decode cL_tube 6 = .ok (.iload_n 3, 1) := by decide +kernel
theorem dL_tube_7 : decode cL_tube 7 = .ok (.iload 4, 2) := by decide +kernel
theorem dL_tube_9 : decode cL_tube 9 = .ok (.iload 5, 2) := by decide +kernel
theorem dL_tube_11 : decode cL_tube 11 = .ok (.iload 6, 2) := by decide +kernel
theorem dL_tube_13 : decode cL_tube 13 = .ok (.iload 7, 2) := by decide +kernel
theorem dL_tube_15 : decode cL_tube 15 = .ok (.invokevirtual 17, 3) := by decide +kernel
theorem dL_tube_18 : decode cL_tube 18 = .ok (.i2l, 1) := by decide +kernel
theorem dL_tube_19 : decode cL_tube 19 = .ok (.lastore, 1) := by decide +kernel
theorem dL_tube_20 : decode cL_tube 20 = .ok (.goto 11, 3) := by decide +kernel
theorem dL_tube_23 : decode cL_tube 23 = .ok (.astore 9, 2) := by decide +kernel
theorem dL_tube_25 : decode cL_tube 25 = .ok (.iconst 1, 1) := by decide +kernel
theorem dL_tube_26 : decode cL_tube 26 = .ok (.ireturn, 1) := by decide +kernel
theorem dL_tube_27 : decode cL_tube 27 = .ok (.astore 9, 2) := by decide +kernel
theorem dL_tube_29 : decode cL_tube 29 = .ok (.iconst 2, 1) := by decide +kernel
theorem dL_tube_30 : decode cL_tube 30 = .ok (.ireturn, 1) := by decide +kernel
theorem dL_tube_31 : decode cL_tube 31 = .ok (.iconst 0, 1) := by decide +kernel
theorem dL_tube_32 : decode cL_tube 32 = .ok (.ireturn, 1) := by decide +kernel
set_option maxRecDepth 20000 in
theorem ggL_margin_X1_margin : GoodIn wsL_margin wsX1_margin := goodIn_ca (goodIn_r _ [6, 7, 8, 9, 10, 5, 11, 12, 13, 14, 15, 16, 17, 18, 19, 20, 21, 22, 23, 24, 25, 26, 27, 28, 29, 30, 31, 32, 33, 34] (by decide +kernel) (by decide +kernel)) (goodIn_sub (fun _ h => List.mem_cons_of_mem _ (List.mem_append_right _ h)) (by decide +kernel))
set_option maxRecDepth 20000 in
theorem gL_margin_X1_margin : GoodIn wsL_margin (wsV RL 20 RX1 yX1_margin wsX1_margin) := goodIn_app (goodIn_of _ (by decide +kernel)) ggL_margin_X1_margin
theorem dL_margin_0 : decode cL_margin 0 = .ok (.aload_n 3, 1) := by decide +kernel
theorem dL_margin_1 : decode cL_margin 1 = .ok (.iconst 0, 1) := by decide +kernel
theorem dL_margin_2 : decode cL_margin 2 = .ok (.aload_n 0, 1) := by decide +kernel
theorem dL_margin_3 : decode cL_margin 3 = .ok (.iload_n 1, 1) := by decide +kernel
theorem dL_margin_4 : decode cL_margin 4 = .ok (.iload_n 2, 1) := by decide +kernel
theorem dL_margin_5 : decode cL_margin 5 = .ok (.invokevirtual 20, 3) := by decide +kernel
theorem dL_margin_8 : decode cL_margin 8 = .ok (.i2l, 1) := by decide +kernel
theorem dL_margin_9 : decode cL_margin 9 = .ok (.lastore, 1) := by decide +kernel
theorem dL_margin_10 : decode cL_margin 10 = .ok (.goto 7, 3) := by decide +kernel
theorem dL_margin_13 : decode cL_margin 13 = .ok (.astore 4, 2) := by decide +kernel
theorem dL_margin_15 : decode cL_margin 15 = .ok (.iconst 1, 1) := by decide +kernel
theorem dL_margin_16 : decode cL_margin 16 = .ok (.ireturn, 1) := by decide +kernel
theorem dL_margin_17 : decode cL_margin 17 = .ok (.iconst 0, 1) := by decide +kernel
theorem dL_margin_18 : decode cL_margin 18 = .ok (.ireturn, 1) := by decide +kernel
set_option maxRecDepth 20000 in
theorem ggL_free_X1_free : GoodIn wsL_free wsX1_free := goodIn_ca (goodIn_r _ [6, 7, 8, 9, 5, 10, 11, 12, 13, 14, 15, 16, 17, 18, 19, 20, 21, 22, 23, 24, 25, 26, 27, 28, 29, 30] (by decide +kernel) (by decide +kernel)) (goodIn_sub (fun _ h => List.mem_cons_of_mem _ (List.mem_append_right _ h)) (by decide +kernel))
set_option maxRecDepth 20000 in
theorem gL_free_X1_free : GoodIn wsL_free (wsV RL 24 RX1 yX1_free wsX1_free) := goodIn_app (goodIn_of _ (by decide +kernel)) ggL_free_X1_free
theorem dL_free_0 : decode cL_free 0 = .ok (.aload 4, 2) := by decide +kernel
theorem dL_free_2 : decode cL_free 2 = .ok (.iconst 0, 1) := by decide +kernel
theorem dL_free_3 : decode cL_free 3 = .ok (.aload_n 0, 1) := by decide +kernel
theorem dL_free_4 : decode cL_free 4 = .ok (.iload_n 1, 1) := by decide +kernel
theorem dL_free_5 : decode cL_free 5 = .ok (.iload_n 2, 1) := by decide +kernel
theorem dL_free_6 : decode cL_free 6 = .ok (.iload_n 3, 1) := by decide +kernel
theorem dL_free_7 : decode cL_free 7 = .ok (.invokevirtual 24, 3) := by decide +kernel
theorem dL_free_10 : decode cL_free 10 = .ok (.ifCond .eq 7, 3) := by decide +kernel
theorem dL_free_13 : decode cL_free 13 = .ok (.lconst 1, 1) := by decide +kernel
theorem dL_free_14 : decode cL_free 14 = .ok (.goto 4, 3) := by decide +kernel
theorem dL_free_17 : decode cL_free 17 = .ok (.lconst 0, 1) := by decide +kernel
theorem dL_free_18 : decode cL_free 18 = .ok (.lastore, 1) := by decide +kernel
theorem dL_free_19 : decode cL_free 19 = .ok (.goto 7, 3) := by decide +kernel
theorem dL_free_22 : decode cL_free 22 = .ok (.astore 5, 2) := by decide +kernel
theorem dL_free_24 : decode cL_free 24 = .ok (.iconst 1, 1) := by decide +kernel
theorem dL_free_25 : decode cL_free 25 = .ok (.ireturn, 1) := by decide +kernel
theorem dL_free_26 : decode cL_free 26 = .ok (.iconst 0, 1) := by decide +kernel
theorem dL_free_27 : decode cL_free 27 = .ok (.ireturn, 1) := by decide +kernel
set_option maxRecDepth 20000 in
theorem ggL_move_X1_move : GoodIn wsL_move wsX1_move := goodIn_ca (goodIn_r _ [6, 7, 8, 9, 10, 11, 5, 12, 13, 14, 15, 16, 17, 18, 19, 20, 21, 22, 23, 24, 25, 26, 27, 28, 29, 30, 31, 32, 33, 34, 35, 36, 37, 38, 39, 40, 41, 42, 43, 44, 45, 46, 47, 48, 49] (by decide +kernel) (by decide +kernel)) (goodIn_sub (fun _ h => List.mem_cons_of_mem _ (List.mem_append_right _ h)) (by decide +kernel))
set_option maxRecDepth 20000 in
theorem gL_move_X1_move : GoodIn wsL_move (wsV RL 28 RX1 yX1_move wsX1_move) := goodIn_app (goodIn_of _ (by decide +kernel)) ggL_move_X1_move
theorem dL_move_0 : decode cL_move 0 = .ok (.aload 4, 2) := by decide +kernel
theorem dL_move_2 : decode cL_move 2 = .ok (.iconst 0, 1) := by decide +kernel
theorem dL_move_3 : decode cL_move 3 = .ok (.aload_n 0, 1) := by decide +kernel
theorem dL_move_4 : decode cL_move 4 = .ok (.iload_n 1, 1) := by decide +kernel
theorem dL_move_5 : decode cL_move 5 = .ok (.iload_n 2, 1) := by decide +kernel
theorem dL_move_6 : decode cL_move 6 = .ok (.iload_n 3, 1) := by decide +kernel
theorem dL_move_7 : decode cL_move 7 = .ok (.invokevirtual 28, 3) := by decide +kernel
theorem dL_move_10 : decode cL_move 10 = .ok (.ifCond .eq 7, 3) := by decide +kernel
theorem dL_move_13 : decode cL_move 13 = .ok (.lconst 1, 1) := by decide +kernel
theorem dL_move_14 : decode cL_move 14 = .ok (.goto 4, 3) := by decide +kernel
theorem dL_move_17 : decode cL_move 17 = .ok (.lconst 0, 1) := by decide +kernel
theorem dL_move_18 : decode cL_move 18 = .ok (.lastore, 1) := by decide +kernel
theorem dL_move_19 : decode cL_move 19 = .ok (.goto 7, 3) := by decide +kernel
theorem dL_move_22 : decode cL_move 22 = .ok (.astore 5, 2) := by decide +kernel
theorem dL_move_24 : decode cL_move 24 = .ok (.iconst 1, 1) := by decide +kernel
theorem dL_move_25 : decode cL_move 25 = .ok (.ireturn, 1) := by decide +kernel
theorem dL_move_26 : decode cL_move 26 = .ok (.iconst 0, 1) := by decide +kernel
theorem dL_move_27 : decode cL_move 27 = .ok (.ireturn, 1) := by decide +kernel
set_option maxRecDepth 20000 in
theorem ggL_drop_X1_drop : GoodIn wsL_drop wsX1_drop := goodIn_ca (goodIn_r _ [6, 7, 8, 9, 10, 11, 5, 12, 13, 14, 15, 16, 17, 18, 19, 20, 21, 22, 23, 24, 25, 26, 27, 28] (by decide +kernel) (by decide +kernel)) (goodIn_sub (fun _ h => List.mem_cons_of_mem _ (List.mem_append_right _ h)) (by decide +kernel))
set_option maxRecDepth 20000 in
theorem gL_drop_X1_drop : GoodIn wsL_drop (wsV RL 32 RX1 yX1_drop wsX1_drop) := goodIn_app (goodIn_of _ (by decide +kernel)) ggL_drop_X1_drop
theorem dL_drop_0 : decode cL_drop 0 = .ok (.aload_n 2, 1) := by decide +kernel
theorem dL_drop_1 : decode cL_drop 1 = .ok (.iconst 0, 1) := by decide +kernel
theorem dL_drop_2 : decode cL_drop 2 = .ok (.aload_n 0, 1) := by decide +kernel
theorem dL_drop_3 : decode cL_drop 3 = .ok (.iload_n 1, 1) := by decide +kernel
theorem dL_drop_4 : decode cL_drop 4 = .ok (.invokevirtual 32, 3) := by decide +kernel
theorem dL_drop_7 : decode cL_drop 7 = .ok (.i2l, 1) := by decide +kernel
theorem dL_drop_8 : decode cL_drop 8 = .ok (.lastore, 1) := by decide +kernel
theorem dL_drop_9 : decode cL_drop 9 = .ok (.goto 6, 3) := by decide +kernel
theorem dL_drop_12 : decode cL_drop 12 = .ok (.astore_n 3, 1) := by decide +kernel
theorem dL_drop_13 : decode cL_drop 13 = .ok (.iconst 1, 1) := by decide +kernel
theorem dL_drop_14 : decode cL_drop 14 = .ok (.ireturn, 1) := by decide +kernel
theorem dL_drop_15 : decode cL_drop 15 = .ok (.iconst 0, 1) := by decide +kernel
theorem dL_drop_16 : decode cL_drop 16 = .ok (.ireturn, 1) := by decide +kernel
set_option maxRecDepth 20000 in
theorem ggL_pair_X1_pair : GoodIn wsL_pair wsX1_pair := goodIn_ca (goodIn_r _ [6, 7, 8, 9, 5, 10, 11, 12, 13, 14, 15, 16, 17, 18, 19, 20, 21, 22, 23, 24, 25, 26, 27, 28, 29, 30, 31, 32, 33, 34, 35, 36, 37, 38, 39, 40, 41, 42, 43, 44, 45, 46, 47, 48, 49, 50, 51, 52, 53, 54, 55, 56, 57, 58, 59, 60, 61, 62, 63, 64, 65, 66, 67, 68, 69, 70, 71, 72, 73, 74, 75, 76, 77, 78, 79, 80, 81, 82, 83, 84] (by decide +kernel) (by decide +kernel)) (goodIn_sub (fun _ h => List.mem_cons_of_mem _ (List.mem_append_right _ h)) (by decide +kernel))
set_option maxRecDepth 20000 in
theorem gL_pair_X1_pair : GoodIn wsL_pair (wsV RL 36 RX1 yX1_pair wsX1_pair) := goodIn_app (goodIn_of _ (by decide +kernel)) ggL_pair_X1_pair
theorem dL_pair_0 : decode cL_pair 0 = .ok (.aload_n 3, 1) := by decide +kernel
theorem dL_pair_1 : decode cL_pair 1 = .ok (.iconst 0, 1) := by decide +kernel
theorem dL_pair_2 : decode cL_pair 2 = .ok (.aload_n 0, 1) := by decide +kernel
theorem dL_pair_3 : decode cL_pair 3 = .ok (.iload_n 1, 1) := by decide +kernel
theorem dL_pair_4 : decode cL_pair 4 = .ok (.iload_n 2, 1) := by decide +kernel
theorem dL_pair_5 : decode cL_pair 5 = .ok (.invokevirtual 36, 3) := by decide +kernel
theorem dL_pair_8 : decode cL_pair 8 = .ok (.i2l, 1) := by decide +kernel
theorem dL_pair_9 : decode cL_pair 9 = .ok (.lastore, 1) := by decide +kernel
theorem dL_pair_10 : decode cL_pair 10 = .ok (.goto 7, 3) := by decide +kernel
theorem dL_pair_13 : decode cL_pair 13 = .ok (.astore 4, 2) := by decide +kernel
theorem dL_pair_15 : decode cL_pair 15 = .ok (.iconst 1, 1) := by decide +kernel
theorem dL_pair_16 : decode cL_pair 16 = .ok (.ireturn, 1) := by decide +kernel
theorem dL_pair_17 : decode cL_pair 17 = .ok (.iconst 0, 1) := by decide +kernel
theorem dL_pair_18 : decode cL_pair 18 = .ok (.ireturn, 1) := by decide +kernel
set_option maxRecDepth 20000 in
theorem ggL_clashes_X1_clashes : GoodIn wsL_clashes wsX1_clashes := goodIn_ca (goodIn_r _ [6, 7, 8, 9, 5, 10, 11, 12, 13, 14, 15, 16, 17, 18, 19, 20, 21, 22, 23, 24, 25, 26, 27, 28, 29, 30, 31, 32, 33, 34, 35, 36, 37, 38, 39, 40, 41, 42, 43, 44, 45, 46, 47, 48, 49, 50, 51, 52, 53, 54, 55, 56, 57, 58, 59, 60, 61, 62, 63, 64, 65, 66, 67, 68, 69, 70, 71, 72, 73, 74, 75, 76, 77, 78, 79, 80, 81, 82, 83, 84, 85, 86, 87, 88, 89] (by decide +kernel) (by decide +kernel)) (goodIn_sub (fun _ h => List.mem_cons_of_mem _ (List.mem_append_right _ h)) (by decide +kernel))
set_option maxRecDepth 20000 in
theorem gL_clashes_X1_clashes : GoodIn wsL_clashes (wsV RL 39 RX1 yX1_clashes wsX1_clashes) := goodIn_app (goodIn_of _ (by decide +kernel)) ggL_clashes_X1_clashes
theorem dL_clashes_0 : decode cL_clashes 0 = .ok (.aload_n 2, 1) := by decide +kernel
theorem dL_clashes_1 : decode cL_clashes 1 = .ok (.iconst 0, 1) := by decide +kernel
theorem dL_clashes_2 : decode cL_clashes 2 = .ok (.aload_n 0, 1) := by decide +kernel
theorem dL_clashes_3 : decode cL_clashes 3 = .ok (.iload_n 1, 1) := by decide +kernel
theorem dL_clashes_4 : decode cL_clashes 4 = .ok (.invokevirtual 39, 3) := by decide +kernel
theorem dL_clashes_7 : decode cL_clashes 7 = .ok (.i2l, 1) := by decide +kernel
theorem dL_clashes_8 : decode cL_clashes 8 = .ok (.lastore, 1) := by decide +kernel
theorem dL_clashes_9 : decode cL_clashes 9 = .ok (.goto 6, 3) := by decide +kernel
theorem dL_clashes_12 : decode cL_clashes 12 = .ok (.astore_n 3, 1) := by decide +kernel
theorem dL_clashes_13 : decode cL_clashes 13 = .ok (.iconst 1, 1) := by decide +kernel
theorem dL_clashes_14 : decode cL_clashes 14 = .ok (.ireturn, 1) := by decide +kernel
theorem dL_clashes_15 : decode cL_clashes 15 = .ok (.iconst 0, 1) := by decide +kernel
theorem dL_clashes_16 : decode cL_clashes 16 = .ok (.ireturn, 1) := by decide +kernel
set_option maxRecDepth 20000 in
theorem ggL_clash_X1_clash : GoodIn wsL_clash wsX1_clash := goodIn_ca (goodIn_r _ [6, 7, 8, 9, 5, 10, 11, 12, 13, 14, 15, 16, 17, 18, 19, 20, 21, 22, 23, 24, 25, 26, 27, 28, 29, 30, 31, 32, 33, 34, 35, 36, 37, 38, 39, 40, 41, 42, 43, 44, 45, 46, 47, 48, 49, 50, 51, 52, 53, 54, 55, 56, 57, 58, 59, 60, 61, 62, 63, 64, 65, 66, 67, 68, 69, 70, 71, 72, 73, 74, 75, 76, 77, 78, 79, 80, 81, 82, 83, 84, 85, 86, 87, 88, 89, 90, 91, 92, 93] (by decide +kernel) (by decide +kernel)) (goodIn_sub (fun _ h => List.mem_cons_of_mem _ (List.mem_append_right _ h)) (by decide +kernel))
set_option maxRecDepth 20000 in
theorem gL_clash_X1_clash : GoodIn wsL_clash (wsV RL 42 RX1 yX1_clash wsX1_clash) := goodIn_app (goodIn_of _ (by decide +kernel)) ggL_clash_X1_clash
theorem dL_clash_0 : decode cL_clash 0 = .ok (.aload 4, 2) := by decide +kernel
theorem dL_clash_2 : decode cL_clash 2 = .ok (.iconst 0, 1) := by decide +kernel
theorem dL_clash_3 : decode cL_clash 3 = .ok (.aload_n 0, 1) := by decide +kernel
theorem dL_clash_4 : decode cL_clash 4 = .ok (.iload_n 1, 1) := by decide +kernel
theorem dL_clash_5 : decode cL_clash 5 = .ok (.iload_n 2, 1) := by decide +kernel
theorem dL_clash_6 : decode cL_clash 6 = .ok (.iload_n 3, 1) := by decide +kernel
theorem dL_clash_7 : decode cL_clash 7 = .ok (.invokevirtual 42, 3) := by decide +kernel
theorem dL_clash_10 : decode cL_clash 10 = .ok (.i2l, 1) := by decide +kernel
theorem dL_clash_11 : decode cL_clash 11 = .ok (.lastore, 1) := by decide +kernel
theorem dL_clash_12 : decode cL_clash 12 = .ok (.goto 7, 3) := by decide +kernel
theorem dL_clash_15 : decode cL_clash 15 = .ok (.astore 5, 2) := by decide +kernel
theorem dL_clash_17 : decode cL_clash 17 = .ok (.iconst 1, 1) := by decide +kernel
theorem dL_clash_18 : decode cL_clash 18 = .ok (.ireturn, 1) := by decide +kernel
theorem dL_clash_19 : decode cL_clash 19 = .ok (.iconst 0, 1) := by decide +kernel
theorem dL_clash_20 : decode cL_clash 20 = .ok (.ireturn, 1) := by decide +kernel
set_option maxRecDepth 20000 in
theorem ggL_group_X1_group : GoodIn wsL_group wsX1_group := goodIn_ca (goodIn_r _ [6, 7, 8, 9, 10, 5, 11, 12, 13, 14, 15, 16, 17, 18, 19, 20, 21, 22, 23, 24, 25, 26, 27, 28, 29, 30, 31, 32, 33, 34, 35, 36, 37, 38, 39, 40, 41, 42, 43, 44, 45, 46, 47, 48, 49, 50, 51, 52, 53, 54, 55, 56, 57, 58, 59, 60, 61, 62, 63, 64, 65, 66, 67, 68, 69, 70, 71, 72, 73, 74, 75, 76, 77, 78, 79, 80, 81, 82, 83, 84, 85, 86, 87, 88, 89, 90, 91, 92, 93, 94, 95, 96, 97, 98, 99, 100, 101] (by decide +kernel) (by decide +kernel)) (goodIn_sub (fun _ h => List.mem_cons_of_mem _ (List.mem_append_right _ h)) (by decide +kernel))
set_option maxRecDepth 20000 in
theorem gL_group_X1_group : GoodIn wsL_group (wsV RL 46 RX1 yX1_group wsX1_group) := goodIn_app (goodIn_of _ (by decide +kernel)) ggL_group_X1_group
theorem dL_group_0 : decode cL_group 0 = .ok (.aload_n 2, 1) := by decide +kernel
theorem dL_group_1 : decode cL_group 1 = .ok (.iconst 0, 1) := by decide +kernel
theorem dL_group_2 : decode cL_group 2 = .ok (.aload_n 0, 1) := by decide +kernel
theorem dL_group_3 : decode cL_group 3 = .ok (.iload_n 1, 1) := by decide +kernel
theorem dL_group_4 : decode cL_group 4 = .ok (.invokevirtual 46, 3) := by decide +kernel
theorem dL_group_7 : decode cL_group 7 = .ok (.i2l, 1) := by decide +kernel
theorem dL_group_8 : decode cL_group 8 = .ok (.lastore, 1) := by decide +kernel
theorem dL_group_9 : decode cL_group 9 = .ok (.goto 6, 3) := by decide +kernel
theorem dL_group_12 : decode cL_group 12 = .ok (.astore_n 3, 1) := by decide +kernel
theorem dL_group_13 : decode cL_group 13 = .ok (.iconst 1, 1) := by decide +kernel
theorem dL_group_14 : decode cL_group 14 = .ok (.ireturn, 1) := by decide +kernel
theorem dL_group_15 : decode cL_group 15 = .ok (.iconst 0, 1) := by decide +kernel
theorem dL_group_16 : decode cL_group 16 = .ok (.ireturn, 1) := by decide +kernel
set_option maxRecDepth 20000 in
theorem ggL_common_X1_common : GoodIn wsL_common wsX1_common := goodIn_ca (goodIn_r _ [6, 7, 8, 9, 10, 11, 12, 13, 14, 15, 16, 5, 17, 18, 19, 20, 21, 22, 23, 24, 25, 26, 27, 28, 29, 30, 31, 32, 33, 34, 35, 36, 37, 38, 39, 40, 41, 42, 43, 44, 45, 46, 47, 48, 49, 50, 51, 52, 53] (by decide +kernel) (by decide +kernel)) (goodIn_sub (fun _ h => List.mem_cons_of_mem _ (List.mem_append_right _ h)) (by decide +kernel))
set_option maxRecDepth 20000 in
theorem gL_common_X1_common : GoodIn wsL_common (wsV RL 49 RX1 yX1_common wsX1_common) := goodIn_app (goodIn_of _ (by decide +kernel)) ggL_common_X1_common
theorem dL_common_0 : decode cL_common 0 = .ok (.aload_n 3, 1) := by decide +kernel
theorem dL_common_1 : decode cL_common 1 = .ok (.iconst 0, 1) := by decide +kernel
theorem dL_common_2 : decode cL_common 2 = .ok (.aload_n 0, 1) := by decide +kernel
theorem dL_common_3 : decode cL_common 3 = .ok (.iload_n 1, 1) := by decide +kernel
theorem dL_common_4 : decode cL_common 4 = .ok (.iload_n 2, 1) := by decide +kernel
theorem dL_common_5 : decode cL_common 5 = .ok (.invokevirtual 49, 3) := by decide +kernel
theorem dL_common_8 : decode cL_common 8 = .ok (.lastore, 1) := by decide +kernel
theorem dL_common_9 : decode cL_common 9 = .ok (.goto 7, 3) := by decide +kernel
theorem dL_common_12 : decode cL_common 12 = .ok (.astore 4, 2) := by decide +kernel
theorem dL_common_14 : decode cL_common 14 = .ok (.iconst 1, 1) := by decide +kernel
theorem dL_common_15 : decode cL_common 15 = .ok (.ireturn, 1) := by decide +kernel
theorem dL_common_16 : decode cL_common 16 = .ok (.iconst 0, 1) := by decide +kernel
theorem dL_common_17 : decode cL_common 17 = .ok (.ireturn, 1) := by decide +kernel
set_option maxRecDepth 20000 in
theorem ggL_inside_X1_inside : GoodIn wsL_inside wsX1_inside := goodIn_ca (goodIn_r _ [6, 7, 8, 9, 10, 5, 11, 12, 13, 14, 15, 16, 17, 18, 19, 20, 21, 22, 23, 24, 25, 26, 27, 28, 29, 30, 31, 32, 33, 34, 35, 36, 37, 38, 39, 40, 41, 42, 43, 44, 45, 46, 47, 48, 49] (by decide +kernel) (by decide +kernel)) (goodIn_sub (fun _ h => List.mem_cons_of_mem _ (List.mem_append_right _ h)) (by decide +kernel))
set_option maxRecDepth 20000 in
theorem gL_inside_X1_inside : GoodIn wsL_inside (wsV RL 53 RX1 yX1_inside wsX1_inside) := goodIn_app (goodIn_of _ (by decide +kernel)) ggL_inside_X1_inside
theorem dL_inside_0 : decode cL_inside 0 = .ok (.aload 8, 2) := by decide +kernel
theorem dL_inside_2 : decode cL_inside 2 = .ok (.iconst 0, 1) := by decide +kernel
theorem dL_inside_3 : decode cL_inside 3 = .ok (.aload_n 0, 1) := by decide +kernel
theorem dL_inside_4 : decode cL_inside 4 = .ok (.iload_n 1, 1) := by decide +kernel
theorem dL_inside_5 : decode cL_inside 5 = .ok (.iload_n 2, 1) := by decide +kernel
theorem dL_inside_6 : decode cL_inside 6 = .ok (.iload_n 3, 1) := by decide +kernel
theorem dL_inside_7 : decode cL_inside 7 = .ok (.iload 4, 2) := by decide +kernel
theorem dL_inside_9 : decode cL_inside 9 = .ok (.iload 5, 2) := by decide +kernel
theorem dL_inside_11 : decode cL_inside 11 = .ok (.iload 6, 2) := by decide +kernel
theorem dL_inside_13 : decode cL_inside 13 = .ok (.iload 7, 2) := by decide +kernel
theorem dL_inside_15 : decode cL_inside 15 = .ok (.invokevirtual 53, 3) := by decide +kernel
theorem dL_inside_18 : decode cL_inside 18 = .ok (.i2l, 1) := by decide +kernel
theorem dL_inside_19 : decode cL_inside 19 = .ok (.lastore, 1) := by decide +kernel
theorem dL_inside_20 : decode cL_inside 20 = .ok (.goto 7, 3) := by decide +kernel
theorem dL_inside_23 : decode cL_inside 23 = .ok (.astore 9, 2) := by decide +kernel
theorem dL_inside_25 : decode cL_inside 25 = .ok (.iconst 1, 1) := by decide +kernel
theorem dL_inside_26 : decode cL_inside 26 = .ok (.ireturn, 1) := by decide +kernel
theorem dL_inside_27 : decode cL_inside 27 = .ok (.iconst 0, 1) := by decide +kernel
theorem dL_inside_28 : decode cL_inside 28 = .ok (.ireturn, 1) := by decide +kernel
set_option maxRecDepth 20000 in
theorem ggL_shift_X1_shift : GoodIn wsL_shift wsX1_shift := goodIn_ca (goodIn_r _ [6, 7, 8, 9, 5, 10, 11, 12, 13, 14, 15, 16, 17, 18, 19, 20, 21, 22, 23, 24, 25, 26, 27, 28, 29, 30, 31, 32, 33, 34, 35, 36, 37, 38, 39, 40, 41, 42, 43, 44, 45, 46, 47, 48, 49, 50, 51, 52, 53, 54, 55, 56, 57, 58, 59, 60, 61, 62, 63, 64, 65, 66, 67, 68, 69, 70, 71, 72, 73, 74, 75, 76, 77, 78, 79, 80, 81, 82, 83, 84, 85, 86, 87, 88, 89, 90, 91, 92, 93, 94, 95, 96, 97, 98, 99, 100, 101, 102, 103, 104, 105, 106, 107, 108, 109, 110, 111] (by decide +kernel) (by decide +kernel)) (goodIn_sub (fun _ h => List.mem_cons_of_mem _ (List.mem_append_right _ h)) (by decide +kernel))
set_option maxRecDepth 20000 in
theorem gL_shift_X1_shift : GoodIn wsL_shift (wsV RL 56 RX1 yX1_shift wsX1_shift) := goodIn_app (goodIn_of _ (by decide +kernel)) ggL_shift_X1_shift
theorem dL_shift_0 : decode cL_shift 0 = .ok (.aload 4, 2) := by decide +kernel
theorem dL_shift_2 : decode cL_shift 2 = .ok (.iconst 0, 1) := by decide +kernel
theorem dL_shift_3 : decode cL_shift 3 = .ok (.aload_n 0, 1) := by decide +kernel
theorem dL_shift_4 : decode cL_shift 4 = .ok (.iload_n 1, 1) := by decide +kernel
theorem dL_shift_5 : decode cL_shift 5 = .ok (.iload_n 2, 1) := by decide +kernel
theorem dL_shift_6 : decode cL_shift 6 = .ok (.iload_n 3, 1) := by decide +kernel
theorem dL_shift_7 : decode cL_shift 7 = .ok (.invokevirtual 56, 3) := by decide +kernel
theorem dL_shift_10 : decode cL_shift 10 = .ok (.i2l, 1) := by decide +kernel
theorem dL_shift_11 : decode cL_shift 11 = .ok (.lastore, 1) := by decide +kernel
theorem dL_shift_12 : decode cL_shift 12 = .ok (.goto 7, 3) := by decide +kernel
theorem dL_shift_15 : decode cL_shift 15 = .ok (.astore 5, 2) := by decide +kernel
theorem dL_shift_17 : decode cL_shift 17 = .ok (.iconst 1, 1) := by decide +kernel
theorem dL_shift_18 : decode cL_shift 18 = .ok (.ireturn, 1) := by decide +kernel
theorem dL_shift_19 : decode cL_shift 19 = .ok (.iconst 0, 1) := by decide +kernel
theorem dL_shift_20 : decode cL_shift 20 = .ok (.ireturn, 1) := by decide +kernel
set_option maxRecDepth 20000 in
theorem ggL_hull_X1_hull : GoodIn wsL_hull wsX1_hull := goodIn_ca (goodIn_r _ [6, 7, 8, 9, 5, 10, 11, 12, 13, 14, 15, 16, 17, 18, 19, 20, 21, 22, 23, 24, 25, 26, 27, 28, 29, 30, 31, 32, 33, 34, 35, 36, 37, 38, 39, 40, 41, 42, 43, 44, 45, 46, 47, 48, 49] (by decide +kernel) (by decide +kernel)) (goodIn_sub (fun _ h => List.mem_cons_of_mem _ (List.mem_append_right _ h)) (by decide +kernel))
set_option maxRecDepth 20000 in
theorem gL_hull_X1_hull : GoodIn wsL_hull (wsV RL 59 RX1 yX1_hull wsX1_hull) := goodIn_app (goodIn_of _ (by decide +kernel)) ggL_hull_X1_hull
theorem dL_hull_0 : decode cL_hull 0 = .ok (.aload 4, 2) := by decide +kernel
theorem dL_hull_2 : decode cL_hull 2 = .ok (.iconst 0, 1) := by decide +kernel
theorem dL_hull_3 : decode cL_hull 3 = .ok (.aload_n 0, 1) := by decide +kernel
theorem dL_hull_4 : decode cL_hull 4 = .ok (.iload_n 1, 1) := by decide +kernel
theorem dL_hull_5 : decode cL_hull 5 = .ok (.iload_n 2, 1) := by decide +kernel
theorem dL_hull_6 : decode cL_hull 6 = .ok (.iload_n 3, 1) := by decide +kernel
theorem dL_hull_7 : decode cL_hull 7 = .ok (.invokevirtual 59, 3) := by decide +kernel
theorem dL_hull_10 : decode cL_hull 10 = .ok (.i2l, 1) := by decide +kernel
theorem dL_hull_11 : decode cL_hull 11 = .ok (.lastore, 1) := by decide +kernel
theorem dL_hull_12 : decode cL_hull 12 = .ok (.goto 7, 3) := by decide +kernel
theorem dL_hull_15 : decode cL_hull 15 = .ok (.astore 5, 2) := by decide +kernel
theorem dL_hull_17 : decode cL_hull 17 = .ok (.iconst 1, 1) := by decide +kernel
theorem dL_hull_18 : decode cL_hull 18 = .ok (.ireturn, 1) := by decide +kernel
theorem dL_hull_19 : decode cL_hull 19 = .ok (.iconst 0, 1) := by decide +kernel
theorem dL_hull_20 : decode cL_hull 20 = .ok (.ireturn, 1) := by decide +kernel
set_option maxRecDepth 20000 in
theorem ggL_law_X1_init : GoodIn wsL_law wsX1_init := goodIn_r _ [9, 10, 11, 12, 13, 14, 15, 16, 17, 18, 19, 20, 21, 22, 23, 443, 444, 445, 446, 447, 448, 449, 450] (by decide +kernel) (by decide +kernel)
set_option maxRecDepth 20000 in
theorem gL_law_X1_init : GoodIn wsL_law (wsX1_init) := ggL_law_X1_init
set_option maxRecDepth 20000 in
theorem ggL_law_X2_init : GoodIn wsL_law wsX2_init := goodIn_r _ [26, 27, 11, 12, 15, 28, 19, 29, 30, 31, 32, 33, 34, 35, 36, 37, 451, 452, 453, 454, 455, 456, 457, 458, 459, 460, 461, 462, 463, 464, 465] (by decide +kernel) (by decide +kernel)
set_option maxRecDepth 20000 in
theorem gL_law_X2_init : GoodIn wsL_law (wsX2_init) := ggL_law_X2_init
set_option maxRecDepth 20000 in
theorem ggL_law_L_box : GoodIn wsL_law wsL_box := goodIn_ca (goodIn_ca (goodIn_r _ [41, 42, 43, 44, 45, 46, 2, 47, 13, 48, 49, 50, 51, 52, 53, 54, 55, 56, 57, 58, 59, 60, 61, 62, 63, 64, 65, 66, 67, 68, 69, 17, 70, 71, 72, 73, 11, 12, 19, 74, 75, 76, 77, 78, 79, 80, 81, 82, 83, 84, 85, 86, 87, 14, 18, 466, 467, 468, 469, 470, 471, 443, 444, 445, 446, 447, 448, 449, 450] (by decide +kernel) (by decide +kernel)) (goodIn_sub (fun _ h => List.mem_append_left _ (List.mem_append_right _ h)) (by decide +kernel))) (goodIn_sub (fun _ h => List.mem_append_right _ h) (by decide +kernel))
set_option maxRecDepth 20000 in
theorem gL_law_L_box : GoodIn wsL_law (va_wsS RL 66 yL_box wsL_box) := goodIn_app (goodIn_of _ (by decide +kernel)) ggL_law_L_box
set_option maxRecDepth 20000 in
theorem ggL_law_X2_box : GoodIn wsL_law wsX2_box := goodIn_r _ [91, 92, 93, 94, 95, 5, 96, 97, 98, 99, 100, 101, 102, 103, 104, 105, 106, 33, 34, 107, 108, 109, 110, 29, 30, 31, 32, 28, 111, 451, 452, 453, 454, 455, 456, 457, 458, 459, 460, 461, 462, 463, 464, 465] (by decide +kernel) (by decide +kernel)
set_option maxRecDepth 20000 in
theorem gL_law_X2_box : GoodIn wsL_law (wsV RL 71 RX2 yX2_box wsX2_box) := goodIn_app (goodIn_of _ (by decide +kernel)) ggL_law_X2_box
set_option maxRecDepth 20000 in
theorem ggL_law_X2_thrown : GoodIn wsL_law wsX2_thrown := goodIn_r _ [115, 93, 451, 452, 453, 454, 455, 456, 457, 458, 459, 460, 461, 462, 463, 464, 465] (by decide +kernel) (by decide +kernel)
set_option maxRecDepth 20000 in
theorem gL_law_X2_thrown : GoodIn wsL_law (wsV RL 72 RX2 yX2_thrown wsX2_thrown) := goodIn_app (goodIn_of _ (by decide +kernel)) ggL_law_X2_thrown
set_option maxRecDepth 20000 in
theorem ggL_law_L_tube : GoodIn wsL_law wsL_tube := goodIn_ca (goodIn_ca (goodIn_r _ [118, 42, 43, 119, 120, 121, 2, 122, 13, 48, 49, 50, 51, 52, 53, 54, 55, 123, 124, 125, 56, 57, 58, 59, 60, 61, 62, 63, 64, 65, 66, 67, 68, 69, 17, 70, 71, 72, 73, 11, 12, 19, 74, 75, 76, 77, 78, 79, 80, 81, 82, 83, 84, 85, 86, 87, 14, 18, 466, 467, 468, 469, 470, 471, 443, 444, 445, 446, 447, 448, 449, 450] (by decide +kernel) (by decide +kernel)) (goodIn_sub (fun _ h => List.mem_append_left _ (List.mem_append_right _ h)) (by decide +kernel))) (goodIn_sub (fun _ h => List.mem_append_right _ h) (by decide +kernel))
set_option maxRecDepth 20000 in
theorem gL_law_L_tube : GoodIn wsL_law (va_wsS RL 76 yL_tube wsL_tube) := goodIn_app (goodIn_of _ (by decide +kernel)) ggL_law_L_tube
set_option maxRecDepth 20000 in
theorem ggL_law_X2_tube : GoodIn wsL_law wsX2_tube := goodIn_r _ [129, 92, 93, 94, 95, 5, 96, 97, 98, 99, 130, 131, 132, 100, 101, 102, 103, 104, 105, 106, 33, 34, 107, 108, 109, 110, 29, 30, 31, 32, 28, 111, 451, 452, 453, 454, 455, 456, 457, 458, 459, 460, 461, 462, 463, 464, 465] (by decide +kernel) (by decide +kernel)
set_option maxRecDepth 20000 in
theorem gL_law_X2_tube : GoodIn wsL_law (wsV RL 78 RX2 yX2_tube wsX2_tube) := goodIn_app (goodIn_of _ (by decide +kernel)) ggL_law_X2_tube
set_option maxRecDepth 20000 in
theorem ggL_law_L_margin : GoodIn wsL_law wsL_margin := goodIn_ca (goodIn_r _ [135, 42, 136, 137, 138, 2, 139, 140, 141, 142, 143, 144, 59, 60, 14, 53, 54, 55, 56, 57, 58, 466, 467, 468, 469, 470, 471, 443, 444, 445, 446, 447, 448, 449, 450] (by decide +kernel) (by decide +kernel)) (goodIn_sub (fun _ h => List.mem_append_left _ (List.mem_append_right _ h)) (by decide +kernel))
set_option maxRecDepth 20000 in
theorem gL_law_L_margin : GoodIn wsL_law (va_wsS RL 79 yL_margin wsL_margin) := goodIn_app (goodIn_of _ (by decide +kernel)) ggL_law_L_margin
set_option maxRecDepth 20000 in
theorem ggL_law_X2_margin : GoodIn wsL_law wsX2_margin := goodIn_r _ [148, 93, 30, 149, 150, 151, 5, 152, 92, 28, 97, 98, 99, 451, 452, 453, 454, 455, 456, 457, 458, 459, 460, 461, 462, 463, 464, 465] (by decide +kernel) (by decide +kernel)
set_option maxRecDepth 20000 in
theorem gL_law_X2_margin : GoodIn wsL_law (wsV RL 82 RX2 yX2_margin wsX2_margin) := goodIn_app (goodIn_of _ (by decide +kernel)) ggL_law_X2_margin
set_option maxRecDepth 20000 in
theorem ggL_law_L_free : GoodIn wsL_law wsL_free := goodIn_ca (goodIn_r _ [155, 42, 156, 157, 158, 2, 159, 16, 50, 51, 52, 53, 54, 55, 56, 57, 58, 59, 60, 160, 161, 162, 163, 443, 444, 445, 446, 447, 448, 449, 450] (by decide +kernel) (by decide +kernel)) (goodIn_sub (fun _ h => List.mem_append_left _ (List.mem_append_right _ h)) (by decide +kernel))
set_option maxRecDepth 20000 in
theorem gL_law_L_free : GoodIn wsL_law (va_wsS RL 83 yL_free wsL_free) := goodIn_app (goodIn_of _ (by decide +kernel)) ggL_law_L_free
set_option maxRecDepth 20000 in
theorem ggL_law_X2_free : GoodIn wsL_law wsX2_free := goodIn_r _ [167, 93, 35, 94, 95, 5, 96, 97, 98, 99, 451, 452, 453, 454, 455, 456, 457, 458, 459, 460, 461, 462, 463, 464, 465] (by decide +kernel) (by decide +kernel)
set_option maxRecDepth 20000 in
theorem gL_law_X2_free : GoodIn wsL_law (wsV RL 86 RX2 yX2_free wsX2_free) := goodIn_app (goodIn_of _ (by decide +kernel)) ggL_law_X2_free
set_option maxRecDepth 20000 in
theorem ggL_law_L_move : GoodIn wsL_law wsL_move := goodIn_ca (goodIn_r _ [170, 42, 171, 172, 173, 2, 174, 175, 176, 141, 142, 143, 144, 59, 60, 14, 53, 54, 55, 123, 124, 125, 56, 57, 58, 177, 178, 179, 49, 180, 74, 75, 80, 81, 82, 83, 466, 467, 468, 469, 470, 471, 443, 444, 445, 446, 447, 448, 449, 450] (by decide +kernel) (by decide +kernel)) (goodIn_sub (fun _ h => List.mem_append_left _ (List.mem_append_right _ h)) (by decide +kernel))
set_option maxRecDepth 20000 in
theorem gL_law_L_move : GoodIn wsL_law (va_wsS RL 87 yL_move wsL_move) := goodIn_app (goodIn_of _ (by decide +kernel)) ggL_law_L_move
set_option maxRecDepth 20000 in
theorem ggL_law_X2_move : GoodIn wsL_law wsX2_move := goodIn_r _ [184, 93, 33, 34, 149, 150, 151, 5, 152, 92, 28, 97, 98, 99, 130, 131, 132, 185, 186, 187, 188, 451, 452, 453, 454, 455, 456, 457, 458, 459, 460, 461, 462, 463, 464, 465] (by decide +kernel) (by decide +kernel)
set_option maxRecDepth 20000 in
theorem gL_law_X2_move : GoodIn wsL_law (wsV RL 90 RX2 yX2_move wsX2_move) := goodIn_app (goodIn_of _ (by decide +kernel)) ggL_law_X2_move
set_option maxRecDepth 20000 in
theorem ggL_law_L_drop : GoodIn wsL_law wsL_drop := goodIn_ca (goodIn_r _ [191, 42, 192, 193, 194, 2, 195, 14, 18, 196, 197, 198, 199, 53, 54, 55, 56, 57, 58, 59, 60, 443, 444, 445, 446, 447, 448, 449, 450] (by decide +kernel) (by decide +kernel)) (goodIn_sub (fun _ h => List.mem_append_left _ (List.mem_append_right _ h)) (by decide +kernel))
set_option maxRecDepth 20000 in
theorem gL_law_L_drop : GoodIn wsL_law (va_wsS RL 91 yL_drop wsL_drop) := goodIn_app (goodIn_of _ (by decide +kernel)) ggL_law_L_drop
set_option maxRecDepth 20000 in
theorem ggL_law_X2_drop : GoodIn wsL_law wsX2_drop := goodIn_r _ [203, 93, 28, 111, 149, 150, 151, 5, 152, 92, 97, 98, 99, 451, 452, 453, 454, 455, 456, 457, 458, 459, 460, 461, 462, 463, 464, 465] (by decide +kernel) (by decide +kernel)
set_option maxRecDepth 20000 in
theorem gL_law_X2_drop : GoodIn wsL_law (wsV RL 94 RX2 yX2_drop wsX2_drop) := goodIn_app (goodIn_of _ (by decide +kernel)) ggL_law_X2_drop
set_option maxRecDepth 20000 in
theorem ggL_law_L_pair : GoodIn wsL_law wsL_pair := goodIn_ca (goodIn_r _ [206, 42, 207, 208, 209, 2, 210, 141, 142, 143, 144, 59, 60, 14, 53, 54, 55, 56, 57, 58, 211, 212, 213, 214, 215, 140, 160, 161, 162, 163, 16, 216, 217, 218, 219, 220, 221, 222, 223, 224, 225, 49, 226, 78, 227, 228, 229, 230, 231, 232, 233, 74, 79, 234, 235, 236, 237, 75, 238, 239, 240, 241, 242, 243, 244, 245, 246, 247, 248, 175, 176, 443, 444, 445, 446, 447, 448, 449, 450, 466, 467, 468, 469, 470, 471] (by decide +kernel) (by decide +kernel)) (goodIn_sub (fun _ h => List.mem_append_left _ (List.mem_append_right _ h)) (by decide +kernel))
set_option maxRecDepth 20000 in
theorem gL_law_L_pair : GoodIn wsL_law (va_wsS RL 95 yL_pair wsL_pair) := goodIn_app (goodIn_of _ (by decide +kernel)) ggL_law_L_pair
set_option maxRecDepth 20000 in
theorem ggL_law_X2_pair : GoodIn wsL_law wsX2_pair := goodIn_r _ [252, 93, 149, 150, 151, 5, 152, 92, 28, 97, 98, 99, 253, 254, 255, 256, 35, 29, 30, 257, 258, 259, 260, 31, 32, 261, 262, 263, 264, 265, 266, 267, 268, 269, 270, 271, 272, 34, 33, 37, 273, 274, 275, 276, 277, 278, 279, 280, 281, 282, 283, 284, 451, 452, 453, 454, 455, 456, 457, 458, 459, 460, 461, 462, 463, 464, 465] (by decide +kernel) (by decide +kernel)
set_option maxRecDepth 20000 in
theorem gL_law_X2_pair : GoodIn wsL_law (wsV RL 97 RX2 yX2_pair wsX2_pair) := goodIn_app (goodIn_of _ (by decide +kernel)) ggL_law_X2_pair
set_option maxRecDepth 20000 in
theorem ggL_law_L_clashes : GoodIn wsL_law wsL_clashes := goodIn_ca (goodIn_r _ [287, 42, 288, 289, 290, 2, 291, 17, 53, 54, 55, 56, 57, 58, 59, 60, 292, 293, 294, 295, 296, 297, 298, 299, 14, 211, 212, 213, 214, 215, 140, 160, 161, 162, 163, 16, 216, 217, 218, 219, 220, 221, 222, 223, 224, 225, 49, 226, 78, 227, 228, 229, 230, 231, 232, 233, 74, 79, 234, 235, 236, 237, 75, 238, 239, 240, 241, 242, 243, 244, 245, 246, 247, 248, 175, 176, 443, 444, 445, 446, 447, 448, 449, 450, 466, 467, 468, 469, 470, 471] (by decide +kernel) (by decide +kernel)) (goodIn_sub (fun _ h => List.mem_append_left _ (List.mem_append_right _ h)) (by decide +kernel))
set_option maxRecDepth 20000 in
theorem gL_law_L_clashes : GoodIn wsL_law (va_wsS RL 98 yL_clashes wsL_clashes) := goodIn_app (goodIn_of _ (by decide +kernel)) ggL_law_L_clashes
set_option maxRecDepth 20000 in
theorem ggL_law_X2_clashes : GoodIn wsL_law wsX2_clashes := goodIn_r _ [303, 93, 92, 28, 97, 98, 5, 99, 253, 254, 255, 256, 35, 29, 30, 257, 258, 259, 260, 31, 32, 261, 262, 263, 264, 265, 266, 267, 268, 269, 270, 271, 272, 34, 33, 37, 273, 274, 275, 276, 277, 278, 279, 280, 281, 282, 283, 284, 451, 452, 453, 454, 455, 456, 457, 458, 459, 460, 461, 462, 463, 464, 465] (by decide +kernel) (by decide +kernel)
set_option maxRecDepth 20000 in
theorem gL_law_X2_clashes : GoodIn wsL_law (wsV RL 100 RX2 yX2_clashes wsX2_clashes) := goodIn_app (goodIn_of _ (by decide +kernel)) ggL_law_X2_clashes
set_option maxRecDepth 20000 in
theorem ggL_law_L_clash : GoodIn wsL_law wsL_clash := goodIn_ca (goodIn_r _ [306, 42, 307, 308, 309, 2, 310, 17, 53, 54, 55, 56, 57, 58, 59, 60, 292, 293, 294, 295, 296, 297, 298, 299, 14, 211, 212, 213, 214, 215, 140, 160, 161, 162, 163, 16, 216, 217, 218, 219, 220, 221, 222, 223, 224, 225, 49, 226, 78, 227, 228, 229, 230, 231, 232, 233, 74, 79, 234, 235, 236, 237, 75, 238, 239, 240, 241, 242, 243, 244, 245, 246, 247, 248, 175, 176, 311, 312, 313, 314, 443, 444, 445, 446, 447, 448, 449, 450, 466, 467, 468, 469, 470, 471] (by decide +kernel) (by decide +kernel)) (goodIn_sub (fun _ h => List.mem_append_left _ (List.mem_append_right _ h)) (by decide +kernel))
set_option maxRecDepth 20000 in
theorem gL_law_L_clash : GoodIn wsL_law (va_wsS RL 101 yL_clash wsL_clash) := goodIn_app (goodIn_of _ (by decide +kernel)) ggL_law_L_clash
set_option maxRecDepth 20000 in
theorem ggL_law_X2_clash : GoodIn wsL_law wsX2_clash := goodIn_r _ [318, 93, 92, 28, 97, 98, 5, 99, 253, 254, 255, 256, 35, 29, 30, 257, 258, 259, 260, 31, 32, 261, 262, 263, 264, 265, 266, 267, 268, 269, 270, 271, 272, 34, 33, 37, 273, 274, 275, 276, 277, 278, 279, 280, 281, 282, 283, 284, 451, 452, 453, 454, 455, 456, 457, 458, 459, 460, 461, 462, 463, 464, 465] (by decide +kernel) (by decide +kernel)
set_option maxRecDepth 20000 in
theorem gL_law_X2_clash : GoodIn wsL_law (wsV RL 103 RX2 yX2_clash wsX2_clash) := goodIn_app (goodIn_of _ (by decide +kernel)) ggL_law_X2_clash
set_option maxRecDepth 20000 in
theorem ggL_law_X1_groups : GoodIn wsL_law wsX1_groups := goodIn_r _ [322, 17, 21, 20, 323, 324, 325, 2, 326, 327, 328, 244, 329, 242, 243, 245, 296, 297, 298, 299, 14, 211, 212, 213, 214, 215, 140, 160, 161, 162, 163, 16, 216, 217, 218, 219, 220, 221, 222, 223, 224, 225, 49, 226, 78, 227, 228, 229, 230, 231, 232, 233, 74, 79, 234, 235, 236, 237, 75, 238, 239, 240, 241, 246, 247, 248, 175, 176, 330, 331, 332, 333, 443, 444, 445, 446, 447, 448, 449, 450, 466, 467, 468, 469, 470, 471] (by decide +kernel) (by decide +kernel)
set_option maxRecDepth 20000 in
theorem gL_law_X1_groups : GoodIn wsL_law (wsV RL 104 RX1 yX1_groups wsX1_groups) := goodIn_app (goodIn_of _ (by decide +kernel)) ggL_law_X1_groups
set_option maxRecDepth 20000 in
theorem ggL_law_X2_groups : GoodIn wsL_law wsX2_groups := goodIn_r _ [337, 93, 92, 28, 36, 338, 339, 340, 5, 341, 253, 254, 255, 256, 35, 29, 30, 257, 258, 259, 260, 31, 32, 261, 262, 263, 264, 265, 266, 267, 268, 269, 270, 271, 272, 34, 33, 37, 273, 274, 275, 276, 277, 278, 279, 280, 281, 282, 283, 284, 451, 452, 453, 454, 455, 456, 457, 458, 459, 460, 461, 462, 463, 464, 465] (by decide +kernel) (by decide +kernel)
set_option maxRecDepth 20000 in
theorem gL_law_X2_groups : GoodIn wsL_law (wsV RL 107 RX2 yX2_groups wsX2_groups) := goodIn_app (goodIn_of _ (by decide +kernel)) ggL_law_X2_groups
set_option maxRecDepth 20000 in
theorem ggL_law_L_group : GoodIn wsL_law wsL_group := goodIn_ca (goodIn_r _ [344, 42, 345, 346, 347, 2, 348, 20, 196, 197, 198, 199, 14, 53, 54, 55, 56, 57, 58, 59, 60, 323, 324, 325, 326, 17, 327, 328, 244, 329, 242, 243, 245, 296, 297, 298, 299, 211, 212, 213, 214, 215, 140, 160, 161, 162, 163, 16, 216, 217, 218, 219, 220, 221, 222, 223, 224, 225, 49, 226, 78, 227, 228, 229, 230, 231, 232, 233, 74, 79, 234, 235, 236, 237, 75, 238, 239, 240, 241, 246, 247, 248, 175, 176, 330, 331, 332, 333, 443, 444, 445, 446, 447, 448, 449, 450, 466, 467, 468, 469, 470, 471] (by decide +kernel) (by decide +kernel)) (goodIn_sub (fun _ h => List.mem_append_left _ (List.mem_append_right _ h)) (by decide +kernel))
set_option maxRecDepth 20000 in
theorem gL_law_L_group : GoodIn wsL_law (va_wsS RL 108 yL_group wsL_group) := goodIn_app (goodIn_of _ (by decide +kernel)) ggL_law_L_group
set_option maxRecDepth 20000 in
theorem ggL_law_X2_group : GoodIn wsL_law wsX2_group := goodIn_r _ [352, 93, 36, 149, 150, 151, 5, 152, 92, 28, 97, 98, 99, 338, 339, 340, 341, 253, 254, 255, 256, 35, 29, 30, 257, 258, 259, 260, 31, 32, 261, 262, 263, 264, 265, 266, 267, 268, 269, 270, 271, 272, 34, 33, 37, 273, 274, 275, 276, 277, 278, 279, 280, 281, 282, 283, 284, 451, 452, 453, 454, 455, 456, 457, 458, 459, 460, 461, 462, 463, 464, 465] (by decide +kernel) (by decide +kernel)
set_option maxRecDepth 20000 in
theorem gL_law_X2_group : GoodIn wsL_law (wsV RL 110 RX2 yX2_group wsX2_group) := goodIn_app (goodIn_of _ (by decide +kernel)) ggL_law_X2_group
set_option maxRecDepth 20000 in
theorem ggL_law_L_common : GoodIn wsL_law wsL_common := goodIn_ca (goodIn_r _ [355, 42, 356, 357, 358, 2, 359, 242, 243, 244, 245, 327, 328, 329, 141, 142, 143, 144, 59, 60, 14, 53, 54, 55, 56, 57, 58, 230, 231, 232, 49, 233, 78, 74, 79, 234, 235, 236, 237, 75, 443, 444, 445, 446, 447, 448, 449, 450, 466, 467, 468, 469, 470, 471] (by decide +kernel) (by decide +kernel)) (goodIn_sub (fun _ h => List.mem_append_left _ (List.mem_append_right _ h)) (by decide +kernel))
set_option maxRecDepth 20000 in
theorem gL_law_L_common : GoodIn wsL_law (va_wsS RL 111 yL_common wsL_common) := goodIn_app (goodIn_of _ (by decide +kernel)) ggL_law_L_common
set_option maxRecDepth 20000 in
theorem ggL_law_X2_common : GoodIn wsL_law wsX2_common := goodIn_r _ [363, 93, 149, 150, 151, 5, 152, 92, 28, 97, 98, 99, 265, 266, 267, 268, 31, 32, 269, 270, 271, 272, 34, 33, 37, 273, 274, 451, 452, 453, 454, 455, 456, 457, 458, 459, 460, 461, 462, 463, 464, 465] (by decide +kernel) (by decide +kernel)
set_option maxRecDepth 20000 in
theorem gL_law_X2_common : GoodIn wsL_law (wsV RL 113 RX2 yX2_common wsX2_common) := goodIn_app (goodIn_of _ (by decide +kernel)) ggL_law_X2_common
set_option maxRecDepth 20000 in
theorem ggL_law_L_inside : GoodIn wsL_law wsL_inside := goodIn_ca (goodIn_r _ [366, 42, 367, 368, 369, 2, 370, 17, 14, 371, 372, 373, 53, 54, 55, 56, 57, 58, 59, 60, 374, 375, 376, 230, 231, 232, 49, 233, 78, 74, 79, 234, 235, 236, 237, 75, 443, 444, 445, 446, 447, 448, 449, 450, 466, 467, 468, 469, 470, 471] (by decide +kernel) (by decide +kernel)) (goodIn_sub (fun _ h => List.mem_append_left _ (List.mem_append_right _ h)) (by decide +kernel))
set_option maxRecDepth 20000 in
theorem gL_law_L_inside : GoodIn wsL_law (va_wsS RL 114 yL_inside wsL_inside) := goodIn_app (goodIn_of _ (by decide +kernel)) ggL_law_L_inside
set_option maxRecDepth 20000 in
theorem ggL_law_X2_inside : GoodIn wsL_law wsX2_inside := goodIn_r _ [380, 93, 92, 28, 381, 382, 5, 383, 97, 98, 99, 265, 266, 267, 268, 31, 32, 269, 270, 271, 272, 34, 33, 37, 273, 274, 275, 276, 277, 451, 452, 453, 454, 455, 456, 457, 458, 459, 460, 461, 462, 463, 464, 465] (by decide +kernel) (by decide +kernel)
set_option maxRecDepth 20000 in
theorem gL_law_X2_inside : GoodIn wsL_law (wsV RL 116 RX2 yX2_inside wsX2_inside) := goodIn_app (goodIn_of _ (by decide +kernel)) ggL_law_X2_inside
set_option maxRecDepth 20000 in
theorem ggL_law_L_shift : GoodIn wsL_law wsL_shift := goodIn_ca (goodIn_r _ [386, 42, 387, 388, 389, 2, 390, 141, 142, 143, 144, 59, 60, 14, 53, 54, 55, 123, 124, 125, 56, 57, 58, 391, 392, 393, 394, 17, 215, 160, 161, 162, 163, 16, 395, 396, 397, 398, 22, 23, 175, 176, 219, 220, 221, 222, 223, 224, 225, 49, 226, 78, 230, 231, 232, 233, 74, 79, 234, 235, 236, 237, 75, 399, 400, 401, 227, 228, 229, 238, 239, 240, 241, 242, 243, 244, 245, 246, 247, 248, 402, 403, 404, 405, 406, 407, 408, 409, 410, 411, 412, 413, 414, 415, 177, 178, 179, 180, 443, 444, 445, 446, 447, 448, 449, 450, 466, 467, 468, 469, 470, 471] (by decide +kernel) (by decide +kernel)) (goodIn_sub (fun _ h => List.mem_append_left _ (List.mem_append_right _ h)) (by decide +kernel))
set_option maxRecDepth 20000 in
theorem gL_law_L_shift : GoodIn wsL_law (va_wsS RL 117 yL_shift wsL_shift) := goodIn_app (goodIn_of _ (by decide +kernel)) ggL_law_L_shift
set_option maxRecDepth 20000 in
theorem ggL_law_X2_shift : GoodIn wsL_law wsX2_shift := goodIn_r _ [419, 93, 149, 150, 151, 5, 152, 92, 28, 97, 98, 99, 130, 131, 132, 420, 421, 422, 423, 37, 273, 274, 35, 29, 185, 186, 187, 188, 33, 34, 257, 258, 259, 260, 31, 32, 261, 262, 263, 264, 265, 266, 267, 268, 269, 270, 271, 272, 275, 276, 277, 278, 279, 280, 281, 282, 283, 284, 451, 452, 453, 454, 455, 456, 457, 458, 459, 460, 461, 462, 463, 464, 465] (by decide +kernel) (by decide +kernel)
set_option maxRecDepth 20000 in
theorem gL_law_X2_shift : GoodIn wsL_law (wsV RL 119 RX2 yX2_shift wsX2_shift) := goodIn_app (goodIn_of _ (by decide +kernel)) ggL_law_X2_shift
set_option maxRecDepth 20000 in
theorem ggL_law_L_hull : GoodIn wsL_law wsL_hull := goodIn_ca (goodIn_r _ [426, 42, 427, 428, 429, 2, 430, 141, 142, 143, 144, 59, 60, 14, 53, 54, 55, 123, 124, 125, 56, 57, 58, 230, 231, 232, 49, 233, 78, 74, 79, 234, 235, 236, 237, 75, 443, 444, 445, 446, 447, 448, 449, 450, 466, 467, 468, 469, 470, 471] (by decide +kernel) (by decide +kernel)) (goodIn_sub (fun _ h => List.mem_append_left _ (List.mem_append_right _ h)) (by decide +kernel))
set_option maxRecDepth 20000 in
theorem gL_law_L_hull : GoodIn wsL_law (va_wsS RL 120 yL_hull wsL_hull) := goodIn_app (goodIn_of _ (by decide +kernel)) ggL_law_L_hull
set_option maxRecDepth 20000 in
theorem ggL_law_X2_hull : GoodIn wsL_law wsX2_hull := goodIn_r _ [434, 93, 149, 150, 151, 5, 152, 92, 28, 97, 98, 99, 130, 131, 132, 265, 266, 267, 268, 31, 32, 269, 270, 271, 272, 34, 33, 37, 273, 274, 451, 452, 453, 454, 455, 456, 457, 458, 459, 460, 461, 462, 463, 464, 465] (by decide +kernel) (by decide +kernel)
set_option maxRecDepth 20000 in
theorem gL_law_X2_hull : GoodIn wsL_law (wsV RL 122 RX2 yX2_hull wsX2_hull) := goodIn_app (goodIn_of _ (by decide +kernel)) ggL_law_X2_hull
set_option maxRecDepth 20000 in
theorem ggL_law_X1_parts : GoodIn wsL_law wsX1_parts := goodIn_r _ [438, 18, 443, 444, 445, 446, 447, 448, 449, 450] (by decide +kernel) (by decide +kernel)
set_option maxRecDepth 20000 in
theorem gL_law_X1_parts : GoodIn wsL_law (wsV RL 123 RX1 yX1_parts wsX1_parts) := goodIn_app (goodIn_of _ (by decide +kernel)) ggL_law_X1_parts
set_option maxRecDepth 20000 in
theorem ggL_law_X2_parts : GoodIn wsL_law wsX2_parts := goodIn_r _ [442, 93, 111, 451, 452, 453, 454, 455, 456, 457, 458, 459, 460, 461, 462, 463, 464, 465] (by decide +kernel) (by decide +kernel)
set_option maxRecDepth 20000 in
theorem gL_law_X2_parts : GoodIn wsL_law (wsV RL 126 RX2 yX2_parts wsX2_parts) := goodIn_app (goodIn_of _ (by decide +kernel)) ggL_law_X2_parts
theorem dL_law_0 : decode cL_law 0 = .ok (.new 8, 3) := by decide +kernel
theorem dL_law_3 : decode cL_law 3 = .ok (.dup, 1) := by decide +kernel
theorem dL_law_4 : decode cL_law 4 = .ok (.invokespecial 62, 3) := by decide +kernel
theorem dL_law_7 : decode cL_law 7 = .ok (.astore_n 1, 1) := by decide +kernel
theorem dL_law_8 : decode cL_law 8 = .ok (.new 63, 3) := by decide +kernel
theorem dL_law_11 : decode cL_law 11 = .ok (.dup, 1) := by decide +kernel
theorem dL_law_12 : decode cL_law 12 = .ok (.invokespecial 65, 3) := by decide +kernel
theorem dL_law_15 : decode cL_law 15 = .ok (.astore_n 2, 1) := by decide +kernel
theorem dL_law_16 : decode cL_law 16 = .ok (.iconst 1, 1) := by decide +kernel
theorem dL_law_17 : decode cL_law 17 = .ok (.newarray .long, 2) := by decide +kernel
theorem dL_law_19 : decode cL_law 19 = .ok (.astore_n 3, 1) := by decide +kernel
theorem dL_law_20 : decode cL_law 20 = .ok (.iconst 0, 1) := by decide +kernel
theorem dL_law_21 : decode cL_law 21 = .ok (.istore 4, 2) := by decide +kernel
theorem dL_law_23 : decode cL_law 23 = .ok (.iload 4, 2) := by decide +kernel
theorem dL_law_25 : decode cL_law 25 = .ok (.aload_n 0, 1) := by decide +kernel
theorem dL_law_26 : decode cL_law 26 = .ok (.arraylength, 1) := by decide +kernel
theorem dL_law_27 : decode cL_law 27 = .ok (.bipush 8, 2) := by decide +kernel
theorem dL_law_29 : decode cL_law 29 = .ok (.isub, 1) := by decide +kernel
theorem dL_law_30 : decode cL_law 30 = .ok (.if_icmp .gt 1319, 3) := by decide +kernel
theorem dL_law_33 : decode cL_law 33 = .ok (.aload_n 0, 1) := by decide +kernel
theorem dL_law_34 : decode cL_law 34 = .ok (.iload 4, 2) := by decide +kernel
theorem dL_law_36 : decode cL_law 36 = .ok (.iaload, 1) := by decide +kernel
theorem dL_law_37 : decode cL_law 37 = .ok (.bipush 15, 2) := by decide +kernel
theorem dL_law_39 : decode cL_law 39 = .ok (.iand, 1) := by decide +kernel
theorem dL_law_40 : decode cL_law 40 = .ok (.tableswitch 1303 0 15 #[80, 212, 344, 412, 515, 602, 658, 726, 782, 862, 875, 931, 998, 1130, 1210, 1290], 80) := by decide +kernel
theorem dL_law_120 : decode cL_law 120 = .ok (.aload_n 1, 1) := by decide +kernel
theorem dL_law_121 : decode cL_law 121 = .ok (.aload_n 0, 1) := by decide +kernel
theorem dL_law_122 : decode cL_law 122 = .ok (.iload 4, 2) := by decide +kernel
theorem dL_law_124 : decode cL_law 124 = .ok (.iconst 1, 1) := by decide +kernel
theorem dL_law_125 : decode cL_law 125 = .ok (.iadd, 1) := by decide +kernel
theorem dL_law_126 : decode cL_law 126 = .ok (.iaload, 1) := by decide +kernel
theorem dL_law_127 : decode cL_law 127 = .ok (.aload_n 0, 1) := by decide +kernel
theorem dL_law_128 : decode cL_law 128 = .ok (.iload 4, 2) := by decide +kernel
theorem dL_law_130 : decode cL_law 130 = .ok (.iconst 2, 1) := by decide +kernel
theorem dL_law_131 : decode cL_law 131 = .ok (.iadd, 1) := by decide +kernel
theorem dL_law_132 : decode cL_law 132 = .ok (.iaload, 1) := by decide +kernel
theorem dL_law_133 : decode cL_law 133 = .ok (.aload_n 0, 1) := by decide +kernel
theorem dL_law_134 : decode cL_law 134 = .ok (.iload 4, 2) := by decide +kernel
theorem dL_law_136 : decode cL_law 136 = .ok (.iconst 3, 1) := by decide +kernel
theorem dL_law_137 : decode cL_law 137 = .ok (.iadd, 1) := by decide +kernel
theorem dL_law_138 : decode cL_law 138 = .ok (.iaload, 1) := by decide +kernel
theorem dL_law_139 : decode cL_law 139 = .ok (.aload_n 0, 1) := by decide +kernel
theorem dL_law_140 : decode cL_law 140 = .ok (.iload 4, 2) := by decide +kernel
theorem dL_law_142 : decode cL_law 142 = .ok (.iconst 4, 1) := by decide +kernel
theorem dL_law_143 : decode cL_law 143 = .ok (.iadd, 1) := by decide +kernel
theorem dL_law_144 : decode cL_law 144 = .ok (.iaload, 1) := by decide +kernel
theorem dL_law_145 : decode cL_law 145 = .ok (.aload_n 0, 1) := by decide +kernel
theorem dL_law_146 : decode cL_law 146 = .ok (.iload 4, 2) := by decide +kernel
theorem dL_law_148 : decode cL_law 148 = .ok (.iconst 5, 1) := by decide +kernel
theorem dL_law_149 : decode cL_law 149 = .ok (.iadd, 1) := by decide +kernel
theorem dL_law_150 : decode cL_law 150 = .ok (.iaload, 1) := by decide +kernel
theorem dL_law_151 : decode cL_law 151 = .ok (.aload_n 0, 1) := by decide +kernel
theorem dL_law_152 : decode cL_law 152 = .ok (.iload 4, 2) := by decide +kernel
theorem dL_law_154 : decode cL_law 154 = .ok (.bipush 6, 2) := by decide +kernel
theorem dL_law_156 : decode cL_law 156 = .ok (.iadd, 1) := by decide +kernel
theorem dL_law_157 : decode cL_law 157 = .ok (.iaload, 1) := by decide +kernel
theorem dL_law_158 : decode cL_law 158 = .ok (.aload_n 0, 1) := by decide +kernel
theorem dL_law_159 : decode cL_law 159 = .ok (.iload 4, 2) := by decide +kernel
theorem dL_law_161 : decode cL_law 161 = .ok (.bipush 7, 2) := by decide +kernel
theorem dL_law_163 : decode cL_law 163 = .ok (.iadd, 1) := by decide +kernel
theorem dL_law_164 : decode cL_law 164 = .ok (.iaload, 1) := by decide +kernel
theorem dL_law_165 : decode cL_law 165 = .ok (.aload_n 3, 1) := by decide +kernel
theorem dL_law_166 : decode cL_law 166 = .ok (.invokestatic 66, 3) := by decide +kernel
theorem dL_law_169 : decode cL_law 169 = .ok (.istore 5, 2) := by decide +kernel
theorem dL_law_171 : decode cL_law 171 = .ok (.aload_n 2, 1) := by decide +kernel
theorem dL_law_172 : decode cL_law 172 = .ok (.aload_n 0, 1) := by decide +kernel
theorem dL_law_173 : decode cL_law 173 = .ok (.iload 4, 2) := by decide +kernel
theorem dL_law_175 : decode cL_law 175 = .ok (.iconst 1, 1) := by decide +kernel
theorem dL_law_176 : decode cL_law 176 = .ok (.iadd, 1) := by decide +kernel
theorem dL_law_177 : decode cL_law 177 = .ok (.iaload, 1) := by decide +kernel
theorem dL_law_178 : decode cL_law 178 = .ok (.aload_n 0, 1) := by decide +kernel
theorem dL_law_179 : decode cL_law 179 = .ok (.iload 4, 2) := by decide +kernel
theorem dL_law_181 : decode cL_law 181 = .ok (.iconst 2, 1) := by decide +kernel
theorem dL_law_182 : decode cL_law 182 = .ok (.iadd, 1) := by decide +kernel
theorem dL_law_183 : decode cL_law 183 = .ok (.iaload, 1) := by decide +kernel
theorem dL_law_184 : decode cL_law 184 = .ok (.aload_n 0, 1) := by decide +kernel
theorem dL_law_185 : decode cL_law 185 = .ok (.iload 4, 2) := by decide +kernel
theorem dL_law_187 : decode cL_law 187 = .ok (.iconst 3, 1) := by decide +kernel
theorem dL_law_188 : decode cL_law 188 = .ok (.iadd, 1) := by decide +kernel
theorem dL_law_189 : decode cL_law 189 = .ok (.iaload, 1) := by decide +kernel
theorem dL_law_190 : decode cL_law 190 = .ok (.aload_n 0, 1) := by decide +kernel
theorem dL_law_191 : decode cL_law 191 = .ok (.iload 4, 2) := by decide +kernel
theorem dL_law_193 : decode cL_law 193 = .ok (.iconst 4, 1) := by decide +kernel
theorem dL_law_194 : decode cL_law 194 = .ok (.iadd, 1) := by decide +kernel
theorem dL_law_195 : decode cL_law 195 = .ok (.iaload, 1) := by decide +kernel
theorem dL_law_196 : decode cL_law 196 = .ok (.aload_n 0, 1) := by decide +kernel
theorem dL_law_197 : decode cL_law 197 = .ok (.iload 4, 2) := by decide +kernel
theorem dL_law_199 : decode cL_law 199 = .ok (.iconst 5, 1) := by decide +kernel
theorem dL_law_200 : decode cL_law 200 = .ok (.iadd, 1) := by decide +kernel
theorem dL_law_201 : decode cL_law 201 = .ok (.iaload, 1) := by decide +kernel
theorem dL_law_202 : decode cL_law 202 = .ok (.aload_n 0, 1) := by decide +kernel
theorem dL_law_203 : decode cL_law 203 = .ok (.iload 4, 2) := by decide +kernel
theorem dL_law_205 : decode cL_law 205 = .ok (.bipush 6, 2) := by decide +kernel
theorem dL_law_207 : decode cL_law 207 = .ok (.iadd, 1) := by decide +kernel
theorem dL_law_208 : decode cL_law 208 = .ok (.iaload, 1) := by decide +kernel
theorem dL_law_209 : decode cL_law 209 = .ok (.aload_n 0, 1) := by decide +kernel
theorem dL_law_210 : decode cL_law 210 = .ok (.iload 4, 2) := by decide +kernel
theorem dL_law_212 : decode cL_law 212 = .ok (.bipush 7, 2) := by decide +kernel
theorem dL_law_214 : decode cL_law 214 = .ok (.iadd, 1) := by decide +kernel
theorem dL_law_215 : decode cL_law 215 = .ok (.iaload, 1) := by decide +kernel
theorem dL_law_216 : decode cL_law 216 = .ok (.invokevirtual 71, 3) := by decide +kernel
theorem dL_law_219 : decode cL_law 219 = .ok (.istore 6, 2) := by decide +kernel
theorem dL_law_221 : decode cL_law 221 = .ok (.aload_n 2, 1) := by decide +kernel
theorem dL_law_222 : decode cL_law 222 = .ok (.invokevirtual 72, 3) := by decide +kernel
theorem dL_law_225 : decode cL_law 225 = .ok (.iload 5, 2) := by decide +kernel
theorem dL_law_227 : decode cL_law 227 = .ok (.if_icmp .eq 5, 3) := by decide +kernel
theorem dL_law_230 : decode cL_law 230 = .ok (.iconst 0, 1) := by decide +kernel
theorem dL_law_231 : decode cL_law 231 = .ok (.ireturn, 1) := by decide +kernel
theorem dL_law_232 : decode cL_law 232 = .ok (.iload 5, 2) := by decide +kernel
theorem dL_law_234 : decode cL_law 234 = .ok (.ifCond .ne 15, 3) := by decide +kernel
theorem dL_law_237 : decode cL_law 237 = .ok (.aload_n 3, 1) := by decide +kernel
theorem dL_law_238 : decode cL_law 238 = .ok (.iconst 0, 1) := by decide +kernel
theorem dL_law_239 : decode cL_law 239 = .ok (.laload, 1) := by decide +kernel
theorem dL_law_240 : decode cL_law 240 = .ok (.iload 6, 2) := by decide +kernel
theorem dL_law_242 : decode cL_law 242 = .ok (.i2l, 1) := by decide +kernel
theorem dL_law_243 : decode cL_law 243 = .ok (.lcmp, 1) := by decide +kernel
theorem dL_law_244 : decode cL_law 244 = .ok (.ifCond .eq 5, 3) := by decide +kernel
theorem dL_law_247 : decode cL_law 247 = .ok (.iconst 0, 1) := by decide +kernel
theorem dL_law_248 : decode cL_law 248 = .ok (.ireturn, 1) := by decide +kernel
theorem dL_law_249 : decode cL_law 249 = .ok (.goto 1094, 3) := by decide +kernel
theorem dL_law_252 : decode cL_law 252 = .ok (.aload_n 1, 1) := by decide +kernel
theorem dL_law_253 : decode cL_law 253 = .ok (.aload_n 0, 1) := by decide +kernel
theorem dL_law_254 : decode cL_law 254 = .ok (.iload 4, 2) := by decide +kernel
theorem dL_law_256 : decode cL_law 256 = .ok (.iconst 1, 1) := by decide +kernel
theorem dL_law_257 : decode cL_law 257 = .ok (.iadd, 1) := by decide +kernel
theorem dL_law_258 : decode cL_law 258 = .ok (.iaload, 1) := by decide +kernel
theorem dL_law_259 : decode cL_law 259 = .ok (.aload_n 0, 1) := by decide +kernel
theorem dL_law_260 : decode cL_law 260 = .ok (.iload 4, 2) := by decide +kernel
theorem dL_law_262 : decode cL_law 262 = .ok (.iconst 2, 1) := by decide +kernel
theorem dL_law_263 : decode cL_law 263 = .ok (.iadd, 1) := by decide +kernel
theorem dL_law_264 : decode cL_law 264 = .ok (.iaload, 1) := by decide +kernel
theorem dL_law_265 : decode cL_law 265 = .ok (.aload_n 0, 1) := by decide +kernel
theorem dL_law_266 : decode cL_law 266 = .ok (.iload 4, 2) := by decide +kernel
theorem dL_law_268 : decode cL_law 268 = .ok (.iconst 3, 1) := by decide +kernel
theorem dL_law_269 : decode cL_law 269 = .ok (.iadd, 1) := by decide +kernel
theorem dL_law_270 : decode cL_law 270 = .ok (.iaload, 1) := by decide +kernel
theorem dL_law_271 : decode cL_law 271 = .ok (.aload_n 0, 1) := by decide +kernel
theorem dL_law_272 : decode cL_law 272 = .ok (.iload 4, 2) := by decide +kernel
theorem dL_law_274 : decode cL_law 274 = .ok (.iconst 4, 1) := by decide +kernel
theorem dL_law_275 : decode cL_law 275 = .ok (.iadd, 1) := by decide +kernel
theorem dL_law_276 : decode cL_law 276 = .ok (.iaload, 1) := by decide +kernel
theorem dL_law_277 : decode cL_law 277 = .ok (.aload_n 0, 1) := by decide +kernel
theorem dL_law_278 : decode cL_law 278 = .ok (.iload 4, 2) := by decide +kernel
theorem dL_law_280 : decode cL_law 280 = .ok (.iconst 5, 1) := by decide +kernel
theorem dL_law_281 : decode cL_law 281 = .ok (.iadd, 1) := by decide +kernel
theorem dL_law_282 : decode cL_law 282 = .ok (.iaload, 1) := by decide +kernel
theorem dL_law_283 : decode cL_law 283 = .ok (.aload_n 0, 1) := by decide +kernel
theorem dL_law_284 : decode cL_law 284 = .ok (.iload 4, 2) := by decide +kernel
theorem dL_law_286 : decode cL_law 286 = .ok (.bipush 6, 2) := by decide +kernel
theorem dL_law_288 : decode cL_law 288 = .ok (.iadd, 1) := by decide +kernel
theorem dL_law_289 : decode cL_law 289 = .ok (.iaload, 1) := by decide +kernel
theorem dL_law_290 : decode cL_law 290 = .ok (.aload_n 0, 1) := by decide +kernel
theorem dL_law_291 : decode cL_law 291 = .ok (.iload 4, 2) := by decide +kernel
theorem dL_law_293 : decode cL_law 293 = .ok (.bipush 7, 2) := by decide +kernel
theorem dL_law_295 : decode cL_law 295 = .ok (.iadd, 1) := by decide +kernel
theorem dL_law_296 : decode cL_law 296 = .ok (.iaload, 1) := by decide +kernel
theorem dL_law_297 : decode cL_law 297 = .ok (.aload_n 3, 1) := by decide +kernel
theorem dL_law_298 : decode cL_law 298 = .ok (.invokestatic 76, 3) := by decide +kernel
theorem dL_law_301 : decode cL_law 301 = .ok (.istore 5, 2) := by decide +kernel
theorem dL_law_303 : decode cL_law 303 = .ok (.aload_n 2, 1) := by decide +kernel
theorem dL_law_304 : decode cL_law 304 = .ok (.aload_n 0, 1) := by decide +kernel
theorem dL_law_305 : decode cL_law 305 = .ok (.iload 4, 2) := by decide +kernel
theorem dL_law_307 : decode cL_law 307 = .ok (.iconst 1, 1) := by decide +kernel
theorem dL_law_308 : decode cL_law 308 = .ok (.iadd, 1) := by decide +kernel
theorem dL_law_309 : decode cL_law 309 = .ok (.iaload, 1) := by decide +kernel
theorem dL_law_310 : decode cL_law 310 = .ok (.aload_n 0, 1) := by decide +kernel
theorem dL_law_311 : decode cL_law 311 = .ok (.iload 4, 2) := by decide +kernel
theorem dL_law_313 : decode cL_law 313 = .ok (.iconst 2, 1) := by decide +kernel
theorem dL_law_314 : decode cL_law 314 = .ok (.iadd, 1) := by decide +kernel
theorem dL_law_315 : decode cL_law 315 = .ok (.iaload, 1) := by decide +kernel
theorem dL_law_316 : decode cL_law 316 = .ok (.aload_n 0, 1) := by decide +kernel
theorem dL_law_317 : decode cL_law 317 = .ok (.iload 4, 2) := by decide +kernel
theorem dL_law_319 : decode cL_law 319 = .ok (.iconst 3, 1) := by decide +kernel
theorem dL_law_320 : decode cL_law 320 = .ok (.iadd, 1) := by decide +kernel
theorem dL_law_321 : decode cL_law 321 = .ok (.iaload, 1) := by decide +kernel
theorem dL_law_322 : decode cL_law 322 = .ok (.aload_n 0, 1) := by decide +kernel
theorem dL_law_323 : decode cL_law 323 = .ok (.iload 4, 2) := by decide +kernel
theorem dL_law_325 : decode cL_law 325 = .ok (.iconst 4, 1) := by decide +kernel
theorem dL_law_326 : decode cL_law 326 = .ok (.iadd, 1) := by decide +kernel
theorem dL_law_327 : decode cL_law 327 = .ok (.iaload, 1) := by decide +kernel
theorem dL_law_328 : decode cL_law 328 = .ok (.aload_n 0, 1) := by decide +kernel
theorem dL_law_329 : decode cL_law 329 = .ok (.iload 4, 2) := by decide +kernel
theorem dL_law_331 : decode cL_law 331 = .ok (.iconst 5, 1) := by decide +kernel
theorem dL_law_332 : decode cL_law 332 = .ok (.iadd, 1) := by decide +kernel
theorem dL_law_333 : decode cL_law 333 = .ok (.iaload, 1) := by decide +kernel
theorem dL_law_334 : decode cL_law 334 = .ok (.aload_n 0, 1) := by decide +kernel
theorem dL_law_335 : decode cL_law 335 = .ok (.iload 4, 2) := by decide +kernel
theorem dL_law_337 : decode cL_law 337 = .ok (.bipush 6, 2) := by decide +kernel
theorem dL_law_339 : decode cL_law 339 = .ok (.iadd, 1) := by decide +kernel
theorem dL_law_340 : decode cL_law 340 = .ok (.iaload, 1) := by decide +kernel
theorem dL_law_341 : decode cL_law 341 = .ok (.aload_n 0, 1) := by decide +kernel
theorem dL_law_342 : decode cL_law 342 = .ok (.iload 4, 2) := by decide +kernel
theorem dL_law_344 : decode cL_law 344 = .ok (.bipush 7, 2) := by decide +kernel
theorem dL_law_346 : decode cL_law 346 = .ok (.iadd, 1) := by decide +kernel
theorem dL_law_347 : decode cL_law 347 = .ok (.iaload, 1) := by decide +kernel
theorem dL_law_348 : decode cL_law 348 = .ok (.invokevirtual 78, 3) := by decide +kernel
theorem dL_law_351 : decode cL_law 351 = .ok (.istore 6, 2) := by decide +kernel
theorem dL_law_353 : decode cL_law 353 = .ok (.aload_n 2, 1) := by decide +kernel
theorem dL_law_354 : decode cL_law 354 = .ok (.invokevirtual 72, 3) := by decide +kernel
theorem dL_law_357 : decode cL_law 357 = .ok (.iload 5, 2) := by decide +kernel
theorem dL_law_359 : decode cL_law 359 = .ok (.if_icmp .eq 5, 3) := by decide +kernel
theorem dL_law_362 : decode cL_law 362 = .ok (.iconst 0, 1) := by decide +kernel
theorem dL_law_363 : decode cL_law 363 = .ok (.ireturn, 1) := by decide +kernel
theorem dL_law_364 : decode cL_law 364 = .ok (.iload 5, 2) := by decide +kernel
theorem dL_law_366 : decode cL_law 366 = .ok (.ifCond .ne 15, 3) := by decide +kernel
theorem dL_law_369 : decode cL_law 369 = .ok (.aload_n 3, 1) := by decide +kernel
theorem dL_law_370 : decode cL_law 370 = .ok (.iconst 0, 1) := by decide +kernel
theorem dL_law_371 : decode cL_law 371 = .ok (.laload, 1) := by decide +kernel
theorem dL_law_372 : decode cL_law 372 = .ok (.iload 6, 2) := by decide +kernel
theorem dL_law_374 : decode cL_law 374 = .ok (.i2l, 1) := by decide +kernel
theorem dL_law_375 : decode cL_law 375 = .ok (.lcmp, 1) := by decide +kernel
theorem dL_law_376 : decode cL_law 376 = .ok (.ifCond .eq 5, 3) := by decide +kernel
theorem dL_law_379 : decode cL_law 379 = .ok (.iconst 0, 1) := by decide +kernel
theorem dL_law_380 : decode cL_law 380 = .ok (.ireturn, 1) := by decide +kernel
theorem dL_law_381 : decode cL_law 381 = .ok (.goto 962, 3) := by decide +kernel
theorem dL_law_384 : decode cL_law 384 = .ok (.aload_n 1, 1) := by decide +kernel
theorem dL_law_385 : decode cL_law 385 = .ok (.aload_n 0, 1) := by decide +kernel
theorem dL_law_386 : decode cL_law 386 = .ok (.iload 4, 2) := by decide +kernel
theorem dL_law_388 : decode cL_law 388 = .ok (.iconst 1, 1) := by decide +kernel
theorem dL_law_389 : decode cL_law 389 = .ok (.iadd, 1) := by decide +kernel
theorem dL_law_390 : decode cL_law 390 = .ok (.iaload, 1) := by decide +kernel
theorem dL_law_391 : decode cL_law 391 = .ok (.aload_n 0, 1) := by decide +kernel
theorem dL_law_392 : decode cL_law 392 = .ok (.iload 4, 2) := by decide +kernel
theorem dL_law_394 : decode cL_law 394 = .ok (.iconst 2, 1) := by decide +kernel
theorem dL_law_395 : decode cL_law 395 = .ok (.iadd, 1) := by decide +kernel
theorem dL_law_396 : decode cL_law 396 = .ok (.iaload, 1) := by decide +kernel
theorem dL_law_397 : decode cL_law 397 = .ok (.aload_n 3, 1) := by decide +kernel
theorem dL_law_398 : decode cL_law 398 = .ok (.invokestatic 79, 3) := by decide +kernel
theorem dL_law_401 : decode cL_law 401 = .ok (.istore 5, 2) := by decide +kernel
theorem dL_law_403 : decode cL_law 403 = .ok (.aload_n 2, 1) := by decide +kernel
theorem dL_law_404 : decode cL_law 404 = .ok (.aload_n 0, 1) := by decide +kernel
theorem dL_law_405 : decode cL_law 405 = .ok (.iload 4, 2) := by decide +kernel
theorem dL_law_407 : decode cL_law 407 = .ok (.iconst 1, 1) := by decide +kernel
theorem dL_law_408 : decode cL_law 408 = .ok (.iadd, 1) := by decide +kernel
theorem dL_law_409 : decode cL_law 409 = .ok (.iaload, 1) := by decide +kernel
theorem dL_law_410 : decode cL_law 410 = .ok (.aload_n 0, 1) := by decide +kernel
theorem dL_law_411 : decode cL_law 411 = .ok (.iload 4, 2) := by decide +kernel
theorem dL_law_413 : decode cL_law 413 = .ok (.iconst 2, 1) := by decide +kernel
theorem dL_law_414 : decode cL_law 414 = .ok (.iadd, 1) := by decide +kernel
theorem dL_law_415 : decode cL_law 415 = .ok (.iaload, 1) := by decide +kernel
theorem dL_law_416 : decode cL_law 416 = .ok (.invokevirtual 82, 3) := by decide +kernel
theorem dL_law_419 : decode cL_law 419 = .ok (.istore 6, 2) := by decide +kernel
theorem dL_law_421 : decode cL_law 421 = .ok (.aload_n 2, 1) := by decide +kernel
theorem dL_law_422 : decode cL_law 422 = .ok (.invokevirtual 72, 3) := by decide +kernel
theorem dL_law_425 : decode cL_law 425 = .ok (.iload 5, 2) := by decide +kernel
theorem dL_law_427 : decode cL_law 427 = .ok (.if_icmp .eq 5, 3) := by decide +kernel
theorem dL_law_430 : decode cL_law 430 = .ok (.iconst 0, 1) := by decide +kernel
theorem dL_law_431 : decode cL_law 431 = .ok (.ireturn, 1) := by decide +kernel
theorem dL_law_432 : decode cL_law 432 = .ok (.iload 5, 2) := by decide +kernel
theorem dL_law_434 : decode cL_law 434 = .ok (.ifCond .ne 15, 3) := by decide +kernel
theorem dL_law_437 : decode cL_law 437 = .ok (.aload_n 3, 1) := by decide +kernel
theorem dL_law_438 : decode cL_law 438 = .ok (.iconst 0, 1) := by decide +kernel
theorem dL_law_439 : decode cL_law 439 = .ok (.laload, 1) := by decide +kernel
theorem dL_law_440 : decode cL_law 440 = .ok (.iload 6, 2) := by decide +kernel
theorem dL_law_442 : decode cL_law 442 = .ok (.i2l, 1) := by decide +kernel
theorem dL_law_443 : decode cL_law 443 = .ok (.lcmp, 1) := by decide +kernel
theorem dL_law_444 : decode cL_law 444 = .ok (.ifCond .eq 5, 3) := by decide +kernel
theorem dL_law_447 : decode cL_law 447 = .ok (.iconst 0, 1) := by decide +kernel
theorem dL_law_448 : decode cL_law 448 = .ok (.ireturn, 1) := by decide +kernel
theorem dL_law_449 : decode cL_law 449 = .ok (.goto 894, 3) := by decide +kernel
theorem dL_law_452 : decode cL_law 452 = .ok (.aload_n 1, 1) := by decide +kernel
theorem dL_law_453 : decode cL_law 453 = .ok (.aload_n 0, 1) := by decide +kernel
theorem dL_law_454 : decode cL_law 454 = .ok (.iload 4, 2) := by decide +kernel
theorem dL_law_456 : decode cL_law 456 = .ok (.iconst 1, 1) := by decide +kernel
theorem dL_law_457 : decode cL_law 457 = .ok (.iadd, 1) := by decide +kernel
theorem dL_law_458 : decode cL_law 458 = .ok (.iaload, 1) := by decide +kernel
theorem dL_law_459 : decode cL_law 459 = .ok (.aload_n 0, 1) := by decide +kernel
theorem dL_law_460 : decode cL_law 460 = .ok (.iload 4, 2) := by decide +kernel
theorem dL_law_462 : decode cL_law 462 = .ok (.iconst 2, 1) := by decide +kernel
theorem dL_law_463 : decode cL_law 463 = .ok (.iadd, 1) := by decide +kernel
theorem dL_law_464 : decode cL_law 464 = .ok (.iaload, 1) := by decide +kernel
theorem dL_law_465 : decode cL_law 465 = .ok (.aload_n 0, 1) := by decide +kernel
theorem dL_law_466 : decode cL_law 466 = .ok (.iload 4, 2) := by decide +kernel
theorem dL_law_468 : decode cL_law 468 = .ok (.iconst 3, 1) := by decide +kernel
theorem dL_law_469 : decode cL_law 469 = .ok (.iadd, 1) := by decide +kernel
theorem dL_law_470 : decode cL_law 470 = .ok (.iaload, 1) := by decide +kernel
theorem dL_law_471 : decode cL_law 471 = .ok (.ifCond .eq 7, 3) := by decide +kernel
theorem dL_law_474 : decode cL_law 474 = .ok (.iconst 1, 1) := by decide +kernel
theorem dL_law_475 : decode cL_law 475 = .ok (.goto 4, 3) := by decide +kernel
theorem dL_law_478 : decode cL_law 478 = .ok (.iconst 0, 1) := by decide +kernel
theorem dL_law_479 : decode cL_law 479 = .ok (.aload_n 3, 1) := by decide +kernel
theorem dL_law_480 : decode cL_law 480 = .ok (.invokestatic 83, 3) := by decide +kernel
theorem dL_law_483 : decode cL_law 483 = .ok (.istore 5, 2) := by decide +kernel
theorem dL_law_485 : decode cL_law 485 = .ok (.aload_n 2, 1) := by decide +kernel
theorem dL_law_486 : decode cL_law 486 = .ok (.aload_n 0, 1) := by decide +kernel
theorem dL_law_487 : decode cL_law 487 = .ok (.iload 4, 2) := by decide +kernel
theorem dL_law_489 : decode cL_law 489 = .ok (.iconst 1, 1) := by decide +kernel
theorem dL_law_490 : decode cL_law 490 = .ok (.iadd, 1) := by decide +kernel
theorem dL_law_491 : decode cL_law 491 = .ok (.iaload, 1) := by decide +kernel
theorem dL_law_492 : decode cL_law 492 = .ok (.aload_n 0, 1) := by decide +kernel
theorem dL_law_493 : decode cL_law 493 = .ok (.iload 4, 2) := by decide +kernel
theorem dL_law_495 : decode cL_law 495 = .ok (.iconst 2, 1) := by decide +kernel
theorem dL_law_496 : decode cL_law 496 = .ok (.iadd, 1) := by decide +kernel
theorem dL_law_497 : decode cL_law 497 = .ok (.iaload, 1) := by decide +kernel
theorem dL_law_498 : decode cL_law 498 = .ok (.aload_n 0, 1) := by decide +kernel
theorem dL_law_499 : decode cL_law 499 = .ok (.iload 4, 2) := by decide +kernel
theorem dL_law_501 : decode cL_law 501 = .ok (.iconst 3, 1) := by decide +kernel
theorem dL_law_502 : decode cL_law 502 = .ok (.iadd, 1) := by decide +kernel
theorem dL_law_503 : decode cL_law 503 = .ok (.iaload, 1) := by decide +kernel
theorem dL_law_504 : decode cL_law 504 = .ok (.ifCond .eq 7, 3) := by decide +kernel
theorem dL_law_507 : decode cL_law 507 = .ok (.iconst 1, 1) := by decide +kernel
theorem dL_law_508 : decode cL_law 508 = .ok (.goto 4, 3) := by decide +kernel
theorem dL_law_511 : decode cL_law 511 = .ok (.iconst 0, 1) := by decide +kernel
theorem dL_law_512 : decode cL_law 512 = .ok (.invokevirtual 86, 3) := by decide +kernel
theorem dL_law_515 : decode cL_law 515 = .ok (.istore 6, 2) := by decide +kernel
theorem dL_law_517 : decode cL_law 517 = .ok (.aload_n 2, 1) := by decide +kernel
theorem dL_law_518 : decode cL_law 518 = .ok (.invokevirtual 72, 3) := by decide +kernel
theorem dL_law_521 : decode cL_law 521 = .ok (.iload 5, 2) := by decide +kernel
theorem dL_law_523 : decode cL_law 523 = .ok (.if_icmp .eq 5, 3) := by decide +kernel
theorem dL_law_526 : decode cL_law 526 = .ok (.iconst 0, 1) := by decide +kernel
theorem dL_law_527 : decode cL_law 527 = .ok (.ireturn, 1) := by decide +kernel
theorem dL_law_528 : decode cL_law 528 = .ok (.iload 5, 2) := by decide +kernel
theorem dL_law_530 : decode cL_law 530 = .ok (.ifCond .ne 22, 3) := by decide +kernel
theorem dL_law_533 : decode cL_law 533 = .ok (.aload_n 3, 1) := by decide +kernel
theorem dL_law_534 : decode cL_law 534 = .ok (.iconst 0, 1) := by decide +kernel
theorem dL_law_535 : decode cL_law 535 = .ok (.laload, 1) := by decide +kernel
theorem dL_law_536 : decode cL_law 536 = .ok (.iload 6, 2) := by decide +kernel
theorem dL_law_538 : decode cL_law 538 = .ok (.ifCond .eq 7, 3) := by decide +kernel
theorem dL_law_541 : decode cL_law 541 = .ok (.lconst 1, 1) := by decide +kernel
theorem dL_law_542 : decode cL_law 542 = .ok (.goto 4, 3) := by decide +kernel
theorem dL_law_545 : decode cL_law 545 = .ok (.lconst 0, 1) := by decide +kernel
theorem dL_law_546 : decode cL_law 546 = .ok (.lcmp, 1) := by decide +kernel
theorem dL_law_547 : decode cL_law 547 = .ok (.ifCond .eq 5, 3) := by decide +kernel
theorem dL_law_550 : decode cL_law 550 = .ok (.iconst 0, 1) := by decide +kernel
theorem dL_law_551 : decode cL_law 551 = .ok (.ireturn, 1) := by decide +kernel
theorem dL_law_552 : decode cL_law 552 = .ok (.goto 791, 3) := by decide +kernel
theorem dL_law_555 : decode cL_law 555 = .ok (.aload_n 1, 1) := by decide +kernel
theorem dL_law_556 : decode cL_law 556 = .ok (.aload_n 0, 1) := by decide +kernel
theorem dL_law_557 : decode cL_law 557 = .ok (.iload 4, 2) := by decide +kernel
theorem dL_law_559 : decode cL_law 559 = .ok (.iconst 1, 1) := by decide +kernel
theorem dL_law_560 : decode cL_law 560 = .ok (.iadd, 1) := by decide +kernel
theorem dL_law_561 : decode cL_law 561 = .ok (.iaload, 1) := by decide +kernel
theorem dL_law_562 : decode cL_law 562 = .ok (.aload_n 0, 1) := by decide +kernel
theorem dL_law_563 : decode cL_law 563 = .ok (.iload 4, 2) := by decide +kernel
theorem dL_law_565 : decode cL_law 565 = .ok (.iconst 2, 1) := by decide +kernel
theorem dL_law_566 : decode cL_law 566 = .ok (.iadd, 1) := by decide +kernel
theorem dL_law_567 : decode cL_law 567 = .ok (.iaload, 1) := by decide +kernel
theorem dL_law_568 : decode cL_law 568 = .ok (.aload_n 0, 1) := by decide +kernel
theorem dL_law_569 : decode cL_law 569 = .ok (.iload 4, 2) := by decide +kernel
theorem dL_law_571 : decode cL_law 571 = .ok (.iconst 3, 1) := by decide +kernel
theorem dL_law_572 : decode cL_law 572 = .ok (.iadd, 1) := by decide +kernel
theorem dL_law_573 : decode cL_law 573 = .ok (.iaload, 1) := by decide +kernel
theorem dL_law_574 : decode cL_law 574 = .ok (.aload_n 3, 1) := by decide +kernel
theorem dL_law_575 : decode cL_law 575 = .ok (.invokestatic 87, 3) := by decide +kernel
theorem dL_law_578 : decode cL_law 578 = .ok (.istore 5, 2) := by decide +kernel
theorem dL_law_580 : decode cL_law 580 = .ok (.aload_n 2, 1) := by decide +kernel
theorem dL_law_581 : decode cL_law 581 = .ok (.aload_n 0, 1) := by decide +kernel
theorem dL_law_582 : decode cL_law 582 = .ok (.iload 4, 2) := by decide +kernel
theorem dL_law_584 : decode cL_law 584 = .ok (.iconst 1, 1) := by decide +kernel
theorem dL_law_585 : decode cL_law 585 = .ok (.iadd, 1) := by decide +kernel
theorem dL_law_586 : decode cL_law 586 = .ok (.iaload, 1) := by decide +kernel
theorem dL_law_587 : decode cL_law 587 = .ok (.aload_n 0, 1) := by decide +kernel
theorem dL_law_588 : decode cL_law 588 = .ok (.iload 4, 2) := by decide +kernel
theorem dL_law_590 : decode cL_law 590 = .ok (.iconst 2, 1) := by decide +kernel
theorem dL_law_591 : decode cL_law 591 = .ok (.iadd, 1) := by decide +kernel
theorem dL_law_592 : decode cL_law 592 = .ok (.iaload, 1) := by decide +kernel
theorem dL_law_593 : decode cL_law 593 = .ok (.aload_n 0, 1) := by decide +kernel
theorem dL_law_594 : decode cL_law 594 = .ok (.iload 4, 2) := by decide +kernel
theorem dL_law_596 : decode cL_law 596 = .ok (.iconst 3, 1) := by decide +kernel
theorem dL_law_597 : decode cL_law 597 = .ok (.iadd, 1) := by decide +kernel
theorem dL_law_598 : decode cL_law 598 = .ok (.iaload, 1) := by decide +kernel
theorem dL_law_599 : decode cL_law 599 = .ok (.invokevirtual 90, 3) := by decide +kernel
theorem dL_law_602 : decode cL_law 602 = .ok (.istore 6, 2) := by decide +kernel
theorem dL_law_604 : decode cL_law 604 = .ok (.aload_n 2, 1) := by decide +kernel
theorem dL_law_605 : decode cL_law 605 = .ok (.invokevirtual 72, 3) := by decide +kernel
theorem dL_law_608 : decode cL_law 608 = .ok (.iload 5, 2) := by decide +kernel
theorem dL_law_610 : decode cL_law 610 = .ok (.if_icmp .eq 5, 3) := by decide +kernel
theorem dL_law_613 : decode cL_law 613 = .ok (.iconst 0, 1) := by decide +kernel
theorem dL_law_614 : decode cL_law 614 = .ok (.ireturn, 1) := by decide +kernel
theorem dL_law_615 : decode cL_law 615 = .ok (.iload 5, 2) := by decide +kernel
theorem dL_law_617 : decode cL_law 617 = .ok (.ifCond .ne 22, 3) := by decide +kernel
theorem dL_law_620 : decode cL_law 620 = .ok (.aload_n 3, 1) := by decide +kernel
theorem dL_law_621 : decode cL_law 621 = .ok (.iconst 0, 1) := by decide +kernel
theorem dL_law_622 : decode cL_law 622 = .ok (.laload, 1) := by decide +kernel
theorem dL_law_623 : decode cL_law 623 = .ok (.iload 6, 2) := by decide +kernel
theorem dL_law_625 : decode cL_law 625 = .ok (.ifCond .eq 7, 3) := by decide +kernel
theorem dL_law_628 : decode cL_law 628 = .ok (.lconst 1, 1) := by decide +kernel
theorem dL_law_629 : decode cL_law 629 = .ok (.goto 4, 3) := by decide +kernel
theorem dL_law_632 : decode cL_law 632 = .ok (.lconst 0, 1) := by decide +kernel
theorem dL_law_633 : decode cL_law 633 = .ok (.lcmp, 1) := by decide +kernel
theorem dL_law_634 : decode cL_law 634 = .ok (.ifCond .eq 5, 3) := by decide +kernel
theorem dL_law_637 : decode cL_law 637 = .ok (.iconst 0, 1) := by decide +kernel
theorem dL_law_638 : decode cL_law 638 = .ok (.ireturn, 1) := by decide +kernel
theorem dL_law_639 : decode cL_law 639 = .ok (.goto 704, 3) := by decide +kernel
theorem dL_law_642 : decode cL_law 642 = .ok (.aload_n 1, 1) := by decide +kernel
theorem dL_law_643 : decode cL_law 643 = .ok (.aload_n 0, 1) := by decide +kernel
theorem dL_law_644 : decode cL_law 644 = .ok (.iload 4, 2) := by decide +kernel
theorem dL_law_646 : decode cL_law 646 = .ok (.iconst 1, 1) := by decide +kernel
theorem dL_law_647 : decode cL_law 647 = .ok (.iadd, 1) := by decide +kernel
theorem dL_law_648 : decode cL_law 648 = .ok (.iaload, 1) := by decide +kernel
theorem dL_law_649 : decode cL_law 649 = .ok (.aload_n 3, 1) := by decide +kernel
theorem dL_law_650 : decode cL_law 650 = .ok (.invokestatic 91, 3) := by decide +kernel
theorem dL_law_653 : decode cL_law 653 = .ok (.istore 5, 2) := by decide +kernel
theorem dL_law_655 : decode cL_law 655 = .ok (.aload_n 2, 1) := by decide +kernel
theorem dL_law_656 : decode cL_law 656 = .ok (.aload_n 0, 1) := by decide +kernel
theorem dL_law_657 : decode cL_law 657 = .ok (.iload 4, 2) := by decide +kernel
theorem dL_law_659 : decode cL_law 659 = .ok (.iconst 1, 1) := by decide +kernel
theorem dL_law_660 : decode cL_law 660 = .ok (.iadd, 1) := by decide +kernel
theorem dL_law_661 : decode cL_law 661 = .ok (.iaload, 1) := by decide +kernel
theorem dL_law_662 : decode cL_law 662 = .ok (.invokevirtual 94, 3) := by decide +kernel
theorem dL_law_665 : decode cL_law 665 = .ok (.istore 6, 2) := by decide +kernel
theorem dL_law_667 : decode cL_law 667 = .ok (.aload_n 2, 1) := by decide +kernel
theorem dL_law_668 : decode cL_law 668 = .ok (.invokevirtual 72, 3) := by decide +kernel
theorem dL_law_671 : decode cL_law 671 = .ok (.iload 5, 2) := by decide +kernel
theorem dL_law_673 : decode cL_law 673 = .ok (.if_icmp .eq 5, 3) := by decide +kernel
theorem dL_law_676 : decode cL_law 676 = .ok (.iconst 0, 1) := by decide +kernel
theorem dL_law_677 : decode cL_law 677 = .ok (.ireturn, 1) := by decide +kernel
theorem dL_law_678 : decode cL_law 678 = .ok (.iload 5, 2) := by decide +kernel
theorem dL_law_680 : decode cL_law 680 = .ok (.ifCond .ne 15, 3) := by decide +kernel
theorem dL_law_683 : decode cL_law 683 = .ok (.aload_n 3, 1) := by decide +kernel
theorem dL_law_684 : decode cL_law 684 = .ok (.iconst 0, 1) := by decide +kernel
theorem dL_law_685 : decode cL_law 685 = .ok (.laload, 1) := by decide +kernel
theorem dL_law_686 : decode cL_law 686 = .ok (.iload 6, 2) := by decide +kernel
theorem dL_law_688 : decode cL_law 688 = .ok (.i2l, 1) := by decide +kernel
theorem dL_law_689 : decode cL_law 689 = .ok (.lcmp, 1) := by decide +kernel
