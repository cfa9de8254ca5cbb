theorem dX1_common_41 : decode cX1_common 41 = .ok (.invokevirtual 108, 3) := by decide +kernel
theorem dX1_common_44 : decode cX1_common 44 = .ok (.aload 4, 2) := by decide +kernel
theorem dX1_common_46 : decode cX1_common 46 = .ok (.iload 7, 2) := by decide +kernel
theorem dX1_common_48 : decode cX1_common 48 = .ok (.invokevirtual 108, 3) := by decide +kernel
theorem dX1_common_51 : decode cX1_common 51 = .ok (.invokestatic 112, 3) := by decide +kernel
theorem dX1_common_54 : decode cX1_common 54 = .ok (.istore 8, 2) := by decide +kernel
theorem dX1_common_56 : decode cX1_common 56 = .ok (.aload_n 3, 1) := by decide +kernel
theorem dX1_common_57 : decode cX1_common 57 = .ok (.iload 7, 2) := by decide +kernel
theorem dX1_common_59 : decode cX1_common 59 = .ok (.invokevirtual 117, 3) := by decide +kernel
theorem dX1_common_62 : decode cX1_common 62 = .ok (.aload 4, 2) := by decide +kernel
theorem dX1_common_64 : decode cX1_common 64 = .ok (.iload 7, 2) := by decide +kernel
theorem dX1_common_66 : decode cX1_common 66 = .ok (.invokevirtual 117, 3) := by decide +kernel
theorem dX1_common_69 : decode cX1_common 69 = .ok (.invokestatic 120, 3) := by decide +kernel
theorem dX1_common_72 : decode cX1_common 72 = .ok (.istore 9, 2) := by decide +kernel
theorem dX1_common_74 : decode cX1_common 74 = .ok (.lload 5, 2) := by decide +kernel
theorem dX1_common_76 : decode cX1_common 76 = .ok (.iconst 0, 1) := by decide +kernel
theorem dX1_common_77 : decode cX1_common 77 = .ok (.iload 9, 2) := by decide +kernel
theorem dX1_common_79 : decode cX1_common 79 = .ok (.iload 8, 2) := by decide +kernel
theorem dX1_common_81 : decode cX1_common 81 = .ok (.isub, 1) := by decide +kernel
theorem dX1_common_82 : decode cX1_common 82 = .ok (.invokestatic 112, 3) := by decide +kernel
theorem dX1_common_85 : decode cX1_common 85 = .ok (.i2l, 1) := by decide +kernel
theorem dX1_common_86 : decode cX1_common 86 = .ok (.lmul, 1) := by decide +kernel
theorem dX1_common_87 : decode cX1_common 87 = .ok (.lstore 5, 2) := by decide +kernel
theorem dX1_common_89 : decode cX1_common 89 = .ok (.iinc 7 1, 3) := by decide +kernel
theorem dX1_common_92 : decode cX1_common 92 = .ok (.goto (-60), 3) := by decide +kernel
theorem dX1_common_95 : decode cX1_common 95 = .ok (.lload 5, 2) := by decide +kernel
theorem dX1_common_97 : decode cX1_common 97 = .ok (.lreturn, 1) := by decide +kernel
set_option maxRecDepth 20000 in
theorem ggX1_inside_X1_isSeen : GoodIn wsX1_inside wsX1_isSeen := goodIn_r _ [6, 7, 8, 5, 9] (by decide +kernel) (by decide +kernel)
set_option maxRecDepth 20000 in
theorem gX1_inside_X1_isSeen : GoodIn wsX1_inside (va_wsS RX1 123 yX1_isSeen wsX1_isSeen) := goodIn_app (goodIn_of _ (by decide +kernel)) ggX1_inside_X1_isSeen
set_option maxRecDepth 20000 in
theorem ggX1_inside_X1_need : GoodIn wsX1_inside wsX1_need := goodIn_ca (goodIn_r _ [12, 13, 14] (by decide +kernel) (by decide +kernel)) (goodIn_sub (fun _ h => List.mem_cons_of_mem _ (List.mem_append_right _ h)) (by decide +kernel))
set_option maxRecDepth 20000 in
theorem gX1_inside_X1_need : GoodIn wsX1_inside (va_wsS RX1 43 yX1_need wsX1_need) := goodIn_app (goodIn_of _ (by decide +kernel)) ggX1_inside_X1_need
set_option maxRecDepth 20000 in
theorem ggX1_inside_X1_cuts : GoodIn wsX1_inside wsX1_cuts := goodIn_r _ [17, 18, 19, 20, 21, 22, 23, 24, 25, 26, 27, 28, 29, 30, 39, 40, 41, 42, 43, 44] (by decide +kernel) (by decide +kernel)
set_option maxRecDepth 20000 in
theorem gX1_inside_X1_cuts : GoodIn wsX1_inside (va_wsS RX1 126 yX1_cuts wsX1_cuts) := goodIn_app (goodIn_of _ (by decide +kernel)) ggX1_inside_X1_cuts
theorem dX1_inside_0 : decode cX1_inside 0 = .ok (.iload_n 1, 1) := by decide +kernel
theorem dX1_inside_1 : decode cX1_inside 1 = .ok (.iload 4, 2) := by decide +kernel
theorem dX1_inside_3 : decode cX1_inside 3 = .ok (.invokestatic 123, 3) := by decide +kernel
theorem dX1_inside_6 : decode cX1_inside 6 = .ok (.ifCond .eq 30, 3) := by decide +kernel
theorem dX1_inside_9 : decode cX1_inside 9 = .ok (.iload_n 2, 1) := by decide +kernel
theorem dX1_inside_10 : decode cX1_inside 10 = .ok (.iload 5, 2) := by decide +kernel
theorem dX1_inside_12 : decode cX1_inside 12 = .ok (.invokestatic 123, 3) := by decide +kernel
theorem dX1_inside_15 : decode cX1_inside 15 = .ok (.ifCond .eq 21, 3) := by decide +kernel
theorem dX1_inside_18 : decode cX1_inside 18 = .ok (.iload_n 3, 1) := by decide +kernel
theorem dX1_inside_19 : decode cX1_inside 19 = .ok (.iload 6, 2) := by decide +kernel
theorem dX1_inside_21 : decode cX1_inside 21 = .ok (.invokestatic 123, 3) := by decide +kernel
theorem dX1_inside_24 : decode cX1_inside 24 = .ok (.ifCond .eq 12, 3) := by decide +kernel
theorem dX1_inside_27 : decode cX1_inside 27 = .ok (.iload 7, 2) := by decide +kernel
theorem dX1_inside_29 : decode cX1_inside 29 = .ok (.ifCond .lt 7, 3) := by decide +kernel
theorem dX1_inside_32 : decode cX1_inside 32 = .ok (.iconst 1, 1) := by decide +kernel
theorem dX1_inside_33 : decode cX1_inside 33 = .ok (.goto 4, 3) := by decide +kernel
theorem dX1_inside_36 : decode cX1_inside 36 = .ok (.iconst 0, 1) := by decide +kernel
theorem dX1_inside_37 : decode cX1_inside 37 = .ok (.invokestatic 43, 3) := by decide +kernel
theorem dX1_inside_40 : decode cX1_inside 40 = .ok (.iload 7, 2) := by decide +kernel
theorem dX1_inside_42 : decode cX1_inside 42 = .ok (.istore 8, 2) := by decide +kernel
theorem dX1_inside_44 : decode cX1_inside 44 = .ok (.iconst 0, 1) := by decide +kernel
theorem dX1_inside_45 : decode cX1_inside 45 = .ok (.istore 9, 2) := by decide +kernel
theorem dX1_inside_47 : decode cX1_inside 47 = .ok (.iload 9, 2) := by decide +kernel
theorem dX1_inside_49 : decode cX1_inside 49 = .ok (.aload_n 0, 1) := by decide +kernel
theorem dX1_inside_50 : decode cX1_inside 50 = .ok (.getfield 19, 3) := by decide +kernel
theorem dX1_inside_53 : decode cX1_inside 53 = .ok (.if_icmp .ge 70, 3) := by decide +kernel
theorem dX1_inside_56 : decode cX1_inside 56 = .ok (.aload_n 0, 1) := by decide +kernel
theorem dX1_inside_57 : decode cX1_inside 57 = .ok (.getfield 11, 3) := by decide +kernel
theorem dX1_inside_60 : decode cX1_inside 60 = .ok (.iload 9, 2) := by decide +kernel
theorem dX1_inside_62 : decode cX1_inside 62 = .ok (.aaload, 1) := by decide +kernel
theorem dX1_inside_63 : decode cX1_inside 63 = .ok (.astore 10, 2) := by decide +kernel
theorem dX1_inside_65 : decode cX1_inside 65 = .ok (.aload 10, 2) := by decide +kernel
theorem dX1_inside_67 : decode cX1_inside 67 = .ok (.ifnull 50, 3) := by decide +kernel
theorem dX1_inside_70 : decode cX1_inside 70 = .ok (.aload 10, 2) := by decide +kernel
theorem dX1_inside_72 : decode cX1_inside 72 = .ok (.iconst 0, 1) := by decide +kernel
theorem dX1_inside_73 : decode cX1_inside 73 = .ok (.iload_n 1, 1) := by decide +kernel
theorem dX1_inside_74 : decode cX1_inside 74 = .ok (.iload 4, 2) := by decide +kernel
theorem dX1_inside_76 : decode cX1_inside 76 = .ok (.invokestatic 126, 3) := by decide +kernel
theorem dX1_inside_79 : decode cX1_inside 79 = .ok (.ifCond .eq 38, 3) := by decide +kernel
theorem dX1_inside_82 : decode cX1_inside 82 = .ok (.aload 10, 2) := by decide +kernel
theorem dX1_inside_84 : decode cX1_inside 84 = .ok (.iconst 1, 1) := by decide +kernel
theorem dX1_inside_85 : decode cX1_inside 85 = .ok (.iload_n 2, 1) := by decide +kernel
theorem dX1_inside_86 : decode cX1_inside 86 = .ok (.iload 5, 2) := by decide +kernel
theorem dX1_inside_88 : decode cX1_inside 88 = .ok (.invokestatic 126, 3) := by decide +kernel
theorem dX1_inside_91 : decode cX1_inside 91 = .ok (.ifCond .eq 26, 3) := by decide +kernel
theorem dX1_inside_94 : decode cX1_inside 94 = .ok (.aload 10, 2) := by decide +kernel
theorem dX1_inside_96 : decode cX1_inside 96 = .ok (.iconst 2, 1) := by decide +kernel
theorem dX1_inside_97 : decode cX1_inside 97 = .ok (.iload_n 3, 1) := by decide +kernel
theorem dX1_inside_98 : decode cX1_inside 98 = .ok (.iload 6, 2) := by decide +kernel
theorem dX1_inside_100 : decode cX1_inside 100 = .ok (.invokestatic 126, 3) := by decide +kernel
theorem dX1_inside_103 : decode cX1_inside 103 = .ok (.ifCond .eq 14, 3) := by decide +kernel
theorem dX1_inside_106 : decode cX1_inside 106 = .ok (.iload 8, 2) := by decide +kernel
theorem dX1_inside_108 : decode cX1_inside 108 = .ok (.ifCond .ne 6, 3) := by decide +kernel
theorem dX1_inside_111 : decode cX1_inside 111 = .ok (.iload 9, 2) := by decide +kernel
theorem dX1_inside_113 : decode cX1_inside 113 = .ok (.ireturn, 1) := by decide +kernel
theorem dX1_inside_114 : decode cX1_inside 114 = .ok (.iinc 8 (-1), 3) := by decide +kernel
theorem dX1_inside_117 : decode cX1_inside 117 = .ok (.iinc 9 1, 3) := by decide +kernel
theorem dX1_inside_120 : decode cX1_inside 120 = .ok (.goto (-73), 3) := by decide +kernel
theorem dX1_inside_123 : decode cX1_inside 123 = .ok (.iconst (-1), 1) := by decide +kernel
theorem dX1_inside_124 : decode cX1_inside 124 = .ok (.ireturn, 1) := by decide +kernel
set_option maxRecDepth 20000 in
theorem ggX1_shift_X1_partAt : GoodIn wsX1_shift wsX1_partAt := goodIn_ca (goodIn_r _ [5, 6, 7, 8, 9, 10, 4, 11, 93, 94, 95, 96, 97, 98, 99, 100] (by decide +kernel) (by decide +kernel)) (goodIn_sub (fun _ h => List.mem_cons_of_mem _ (List.mem_append_right _ h)) (by decide +kernel))
set_option maxRecDepth 20000 in
theorem gX1_shift_X1_partAt : GoodIn wsX1_shift (wsV RX1 71 RX1 yX1_partAt wsX1_partAt) := goodIn_app (goodIn_of _ (by decide +kernel)) ggX1_shift_X1_partAt
set_option maxRecDepth 20000 in
theorem ggX1_shift_X1_isAxis : GoodIn wsX1_shift wsX1_isAxis := goodIn_r _ [14, 9, 10, 4, 11] (by decide +kernel) (by decide +kernel)
set_option maxRecDepth 20000 in
theorem gX1_shift_X1_isAxis : GoodIn wsX1_shift (va_wsS RX1 64 yX1_isAxis wsX1_isAxis) := goodIn_app (goodIn_of _ (by decide +kernel)) ggX1_shift_X1_isAxis
set_option maxRecDepth 20000 in
theorem ggX1_shift_X1_isWithin : GoodIn wsX1_shift wsX1_isWithin := goodIn_r _ [11] (by decide +kernel) (by decide +kernel)
set_option maxRecDepth 20000 in
theorem gX1_shift_X1_isWithin : GoodIn wsX1_shift (va_wsS RX1 67 yX1_isWithin wsX1_isWithin) := goodIn_app (goodIn_of _ (by decide +kernel)) ggX1_shift_X1_isWithin
set_option maxRecDepth 20000 in
theorem ggX1_shift_X1_need : GoodIn wsX1_shift wsX1_need := goodIn_ca (goodIn_r _ [17, 6, 7] (by decide +kernel) (by decide +kernel)) (goodIn_sub (fun _ h => List.mem_cons_of_mem _ (List.mem_append_right _ h)) (by decide +kernel))
set_option maxRecDepth 20000 in
theorem gX1_shift_X1_need : GoodIn wsX1_shift (va_wsS RX1 43 yX1_need wsX1_need) := goodIn_app (goodIn_of _ (by decide +kernel)) ggX1_shift_X1_need
set_option maxRecDepth 20000 in
theorem ggX1_shift_X1_findBlocks : GoodIn wsX1_shift wsX1_findBlocks := goodIn_r _ [21, 22, 8, 23, 24, 25, 26, 4, 27, 28, 29, 30, 31, 32, 33, 34, 35, 36, 37, 38, 39, 40, 41, 42, 43, 44, 45, 46, 47, 48, 49, 50, 51, 52, 53, 54, 55, 56, 57, 58, 59, 60, 61, 62, 63, 64, 65, 66, 67, 68, 69, 70, 71, 72, 73, 74, 75, 76, 77, 78, 79, 80, 93, 94, 95, 96, 97, 98, 99, 100, 101, 102, 103, 104, 105, 106] (by decide +kernel) (by decide +kernel)
set_option maxRecDepth 20000 in
theorem gX1_shift_X1_findBlocks : GoodIn wsX1_shift (wsV RX1 130 RX1 yX1_findBlocks wsX1_findBlocks) := goodIn_app (goodIn_of _ (by decide +kernel)) ggX1_shift_X1_findBlocks
set_option maxRecDepth 20000 in
theorem ggX1_shift_X1_freeShift : GoodIn wsX1_shift wsX1_freeShift := goodIn_r _ [84, 34, 33, 85, 86, 87, 4, 88, 9, 10, 11, 93, 94, 95, 96, 97, 98, 99, 100] (by decide +kernel) (by decide +kernel)
set_option maxRecDepth 20000 in
theorem gX1_shift_X1_freeShift : GoodIn wsX1_shift (wsV RX1 134 RX1 yX1_freeShift wsX1_freeShift) := goodIn_app (goodIn_of _ (by decide +kernel)) ggX1_shift_X1_freeShift
set_option maxRecDepth 20000 in
theorem ggX1_shift_X0_staysInSpace : GoodIn wsX1_shift wsX0_staysInSpace := goodIn_r _ [92, 51, 57, 101, 102, 103, 104, 105, 106] (by decide +kernel) (by decide +kernel)
set_option maxRecDepth 20000 in
theorem gX1_shift_X0_staysInSpace : GoodIn wsX1_shift (wsV RX1 81 RX0 yX0_staysInSpace wsX0_staysInSpace) := goodIn_app (goodIn_of _ (by decide +kernel)) ggX1_shift_X0_staysInSpace
theorem dX1_shift_0 : decode cX1_shift 0 = .ok (.aload_n 0, 1) := by decide +kernel
theorem dX1_shift_1 : decode cX1_shift 1 = .ok (.iload_n 1, 1) := by decide +kernel
theorem dX1_shift_2 : decode cX1_shift 2 = .ok (.invokevirtual 71, 3) := by decide +kernel
theorem dX1_shift_5 : decode cX1_shift 5 = .ok (.astore 4, 2) := by decide +kernel
theorem dX1_shift_7 : decode cX1_shift 7 = .ok (.iload_n 2, 1) := by decide +kernel
theorem dX1_shift_8 : decode cX1_shift 8 = .ok (.invokestatic 64, 3) := by decide +kernel
theorem dX1_shift_11 : decode cX1_shift 11 = .ok (.ifCond .eq 18, 3) := by decide +kernel
theorem dX1_shift_14 : decode cX1_shift 14 = .ok (.iload_n 3, 1) := by decide +kernel
theorem dX1_shift_15 : decode cX1_shift 15 = .ok (.iconst 0, 1) := by decide +kernel
theorem dX1_shift_16 : decode cX1_shift 16 = .ok (.sipush 1000, 3) := by decide +kernel
theorem dX1_shift_19 : decode cX1_shift 19 = .ok (.invokestatic 67, 3) := by decide +kernel
theorem dX1_shift_22 : decode cX1_shift 22 = .ok (.ifCond .eq 7, 3) := by decide +kernel
theorem dX1_shift_25 : decode cX1_shift 25 = .ok (.iconst 1, 1) := by decide +kernel
theorem dX1_shift_26 : decode cX1_shift 26 = .ok (.goto 4, 3) := by decide +kernel
theorem dX1_shift_29 : decode cX1_shift 29 = .ok (.iconst 0, 1) := by decide +kernel
theorem dX1_shift_30 : decode cX1_shift 30 = .ok (.invokestatic 43, 3) := by decide +kernel
theorem dX1_shift_33 : decode cX1_shift 33 = .ok (.aload_n 0, 1) := by decide +kernel
theorem dX1_shift_34 : decode cX1_shift 34 = .ok (.aload 4, 2) := by decide +kernel
theorem dX1_shift_36 : decode cX1_shift 36 = .ok (.iload_n 1, 1) := by decide +kernel
theorem dX1_shift_37 : decode cX1_shift 37 = .ok (.iload_n 2, 1) := by decide +kernel
theorem dX1_shift_38 : decode cX1_shift 38 = .ok (.invokevirtual 130, 3) := by decide +kernel
theorem dX1_shift_41 : decode cX1_shift 41 = .ok (.istore 5, 2) := by decide +kernel
theorem dX1_shift_43 : decode cX1_shift 43 = .ok (.aload_n 0, 1) := by decide +kernel
theorem dX1_shift_44 : decode cX1_shift 44 = .ok (.iload 5, 2) := by decide +kernel
theorem dX1_shift_46 : decode cX1_shift 46 = .ok (.iconst 1, 1) := by decide +kernel
theorem dX1_shift_47 : decode cX1_shift 47 = .ok (.invokevirtual 134, 3) := by decide +kernel
theorem dX1_shift_50 : decode cX1_shift 50 = .ok (.istore 6, 2) := by decide +kernel
theorem dX1_shift_52 : decode cX1_shift 52 = .ok (.aload_n 0, 1) := by decide +kernel
theorem dX1_shift_53 : decode cX1_shift 53 = .ok (.iload 5, 2) := by decide +kernel
theorem dX1_shift_55 : decode cX1_shift 55 = .ok (.iconst 0, 1) := by decide +kernel
theorem dX1_shift_56 : decode cX1_shift 56 = .ok (.invokevirtual 134, 3) := by decide +kernel
theorem dX1_shift_59 : decode cX1_shift 59 = .ok (.istore 7, 2) := by decide +kernel
theorem dX1_shift_61 : decode cX1_shift 61 = .ok (.iload 6, 2) := by decide +kernel
theorem dX1_shift_63 : decode cX1_shift 63 = .ok (.iload_n 3, 1) := by decide +kernel
theorem dX1_shift_64 : decode cX1_shift 64 = .ok (.if_icmp .gt 18, 3) := by decide +kernel
theorem dX1_shift_67 : decode cX1_shift 67 = .ok (.aload 4, 2) := by decide +kernel
theorem dX1_shift_69 : decode cX1_shift 69 = .ok (.iload_n 2, 1) := by decide +kernel
theorem dX1_shift_70 : decode cX1_shift 70 = .ok (.iload 6, 2) := by decide +kernel
theorem dX1_shift_72 : decode cX1_shift 72 = .ok (.invokevirtual 81, 3) := by decide +kernel
theorem dX1_shift_75 : decode cX1_shift 75 = .ok (.ifCond .eq 7, 3) := by decide +kernel
theorem dX1_shift_78 : decode cX1_shift 78 = .ok (.iconst 1, 1) := by decide +kernel
theorem dX1_shift_79 : decode cX1_shift 79 = .ok (.goto 4, 3) := by decide +kernel
theorem dX1_shift_82 : decode cX1_shift 82 = .ok (.iconst 0, 1) := by decide +kernel
theorem dX1_shift_83 : decode cX1_shift 83 = .ok (.istore 8, 2) := by decide +kernel
theorem dX1_shift_85 : decode cX1_shift 85 = .ok (.iload 7, 2) := by decide +kernel
theorem dX1_shift_87 : decode cX1_shift 87 = .ok (.ineg, 1) := by decide +kernel
theorem dX1_shift_88 : decode cX1_shift 88 = .ok (.iload_n 3, 1) := by decide +kernel
theorem dX1_shift_89 : decode cX1_shift 89 = .ok (.if_icmp .gt 18, 3) := by decide +kernel
theorem dX1_shift_92 : decode cX1_shift 92 = .ok (.aload 4, 2) := by decide +kernel
theorem dX1_shift_94 : decode cX1_shift 94 = .ok (.iload_n 2, 1) := by decide +kernel
theorem dX1_shift_95 : decode cX1_shift 95 = .ok (.iload 7, 2) := by decide +kernel
theorem dX1_shift_97 : decode cX1_shift 97 = .ok (.invokevirtual 81, 3) := by decide +kernel
theorem dX1_shift_100 : decode cX1_shift 100 = .ok (.ifCond .eq 7, 3) := by decide +kernel
theorem dX1_shift_103 : decode cX1_shift 103 = .ok (.iconst 1, 1) := by decide +kernel
theorem dX1_shift_104 : decode cX1_shift 104 = .ok (.goto 4, 3) := by decide +kernel
theorem dX1_shift_107 : decode cX1_shift 107 = .ok (.iconst 0, 1) := by decide +kernel
theorem dX1_shift_108 : decode cX1_shift 108 = .ok (.istore 9, 2) := by decide +kernel
theorem dX1_shift_110 : decode cX1_shift 110 = .ok (.iload 8, 2) := by decide +kernel
theorem dX1_shift_112 : decode cX1_shift 112 = .ok (.ifCond .eq 19, 3) := by decide +kernel
theorem dX1_shift_115 : decode cX1_shift 115 = .ok (.iload 9, 2) := by decide +kernel
theorem dX1_shift_117 : decode cX1_shift 117 = .ok (.ifCond .eq 11, 3) := by decide +kernel
theorem dX1_shift_120 : decode cX1_shift 120 = .ok (.iload 6, 2) := by decide +kernel
theorem dX1_shift_122 : decode cX1_shift 122 = .ok (.iload 7, 2) := by decide +kernel
theorem dX1_shift_124 : decode cX1_shift 124 = .ok (.ineg, 1) := by decide +kernel
theorem dX1_shift_125 : decode cX1_shift 125 = .ok (.if_icmp .gt 6, 3) := by decide +kernel
theorem dX1_shift_128 : decode cX1_shift 128 = .ok (.iload 6, 2) := by decide +kernel
theorem dX1_shift_130 : decode cX1_shift 130 = .ok (.ireturn, 1) := by decide +kernel
theorem dX1_shift_131 : decode cX1_shift 131 = .ok (.iload 9, 2) := by decide +kernel
theorem dX1_shift_133 : decode cX1_shift 133 = .ok (.ifCond .eq 8, 3) := by decide +kernel
theorem dX1_shift_136 : decode cX1_shift 136 = .ok (.iload 7, 2) := by decide +kernel
theorem dX1_shift_138 : decode cX1_shift 138 = .ok (.goto 6, 3) := by decide +kernel
theorem dX1_shift_141 : decode cX1_shift 141 = .ok (.sipush (-10000), 3) := by decide +kernel
theorem dX1_shift_144 : decode cX1_shift 144 = .ok (.ireturn, 1) := by decide +kernel
set_option maxRecDepth 20000 in
theorem ggX1_hull_X1_partAt : GoodIn wsX1_hull wsX1_partAt := goodIn_ca (goodIn_r _ [5, 6, 7, 8, 9, 10, 4, 11, 31, 32, 33, 34, 35, 36, 37, 38] (by decide +kernel) (by decide +kernel)) (goodIn_sub (fun _ h => List.mem_cons_of_mem _ (List.mem_append_right _ h)) (by decide +kernel))
set_option maxRecDepth 20000 in
theorem gX1_hull_X1_partAt : GoodIn wsX1_hull (wsV RX1 71 RX1 yX1_partAt wsX1_partAt) := goodIn_app (goodIn_of _ (by decide +kernel)) ggX1_hull_X1_partAt
set_option maxRecDepth 20000 in
theorem ggX1_hull_X1_isAxis : GoodIn wsX1_hull wsX1_isAxis := goodIn_r _ [14, 9, 10, 4, 11] (by decide +kernel) (by decide +kernel)
set_option maxRecDepth 20000 in
theorem gX1_hull_X1_isAxis : GoodIn wsX1_hull (va_wsS RX1 64 yX1_isAxis wsX1_isAxis) := goodIn_app (goodIn_of _ (by decide +kernel)) ggX1_hull_X1_isAxis
set_option maxRecDepth 20000 in
theorem ggX1_hull_X1_isWithin : GoodIn wsX1_hull wsX1_isWithin := goodIn_r _ [11] (by decide +kernel) (by decide +kernel)
set_option maxRecDepth 20000 in
theorem gX1_hull_X1_isWithin : GoodIn wsX1_hull (va_wsS RX1 67 yX1_isWithin wsX1_isWithin) := goodIn_app (goodIn_of _ (by decide +kernel)) ggX1_hull_X1_isWithin
set_option maxRecDepth 20000 in
theorem ggX1_hull_X1_need : GoodIn wsX1_hull wsX1_need := goodIn_ca (goodIn_r _ [17, 6, 7] (by decide +kernel) (by decide +kernel)) (goodIn_sub (fun _ h => List.mem_cons_of_mem _ (List.mem_append_right _ h)) (by decide +kernel))
set_option maxRecDepth 20000 in
theorem gX1_hull_X1_need : GoodIn wsX1_hull (va_wsS RX1 43 yX1_need wsX1_need) := goodIn_app (goodIn_of _ (by decide +kernel)) ggX1_hull_X1_need
set_option maxRecDepth 20000 in
theorem ggX1_hull_X0_hullLeast : GoodIn wsX1_hull wsX0_hullLeast := goodIn_r _ [22, 23, 24, 25, 39, 40, 41, 42, 43, 44] (by decide +kernel) (by decide +kernel)
set_option maxRecDepth 20000 in
theorem gX1_hull_X0_hullLeast : GoodIn wsX1_hull (wsV RX1 108 RX0 yX0_hullLeast wsX0_hullLeast) := goodIn_app (goodIn_of _ (by decide +kernel)) ggX1_hull_X0_hullLeast
set_option maxRecDepth 20000 in
theorem ggX1_hull_X0_hullGreatest : GoodIn wsX1_hull wsX0_hullGreatest := goodIn_r _ [29, 23, 30, 25, 39, 40, 41, 42, 43, 44] (by decide +kernel) (by decide +kernel)
set_option maxRecDepth 20000 in
theorem gX1_hull_X0_hullGreatest : GoodIn wsX1_hull (wsV RX1 117 RX0 yX0_hullGreatest wsX0_hullGreatest) := goodIn_app (goodIn_of _ (by decide +kernel)) ggX1_hull_X0_hullGreatest
theorem dX1_hull_0 : decode cX1_hull 0 = .ok (.aload_n 0, 1) := by decide +kernel
theorem dX1_hull_1 : decode cX1_hull 1 = .ok (.iload_n 1, 1) := by decide +kernel
theorem dX1_hull_2 : decode cX1_hull 2 = .ok (.invokevirtual 71, 3) := by decide +kernel
theorem dX1_hull_5 : decode cX1_hull 5 = .ok (.astore 4, 2) := by decide +kernel
theorem dX1_hull_7 : decode cX1_hull 7 = .ok (.iload_n 2, 1) := by decide +kernel
theorem dX1_hull_8 : decode cX1_hull 8 = .ok (.invokestatic 64, 3) := by decide +kernel
theorem dX1_hull_11 : decode cX1_hull 11 = .ok (.ifCond .eq 16, 3) := by decide +kernel
theorem dX1_hull_14 : decode cX1_hull 14 = .ok (.iload_n 3, 1) := by decide +kernel
theorem dX1_hull_15 : decode cX1_hull 15 = .ok (.iconst 0, 1) := by decide +kernel
theorem dX1_hull_16 : decode cX1_hull 16 = .ok (.iconst 1, 1) := by decide +kernel
theorem dX1_hull_17 : decode cX1_hull 17 = .ok (.invokestatic 67, 3) := by decide +kernel
theorem dX1_hull_20 : decode cX1_hull 20 = .ok (.ifCond .eq 7, 3) := by decide +kernel
theorem dX1_hull_23 : decode cX1_hull 23 = .ok (.iconst 1, 1) := by decide +kernel
theorem dX1_hull_24 : decode cX1_hull 24 = .ok (.goto 4, 3) := by decide +kernel
theorem dX1_hull_27 : decode cX1_hull 27 = .ok (.iconst 0, 1) := by decide +kernel
theorem dX1_hull_28 : decode cX1_hull 28 = .ok (.invokestatic 43, 3) := by decide +kernel
theorem dX1_hull_31 : decode cX1_hull 31 = .ok (.iload_n 3, 1) := by decide +kernel
theorem dX1_hull_32 : decode cX1_hull 32 = .ok (.ifCond .ne 12, 3) := by decide +kernel
theorem dX1_hull_35 : decode cX1_hull 35 = .ok (.aload 4, 2) := by decide +kernel
theorem dX1_hull_37 : decode cX1_hull 37 = .ok (.iload_n 2, 1) := by decide +kernel
theorem dX1_hull_38 : decode cX1_hull 38 = .ok (.invokevirtual 108, 3) := by decide +kernel
theorem dX1_hull_41 : decode cX1_hull 41 = .ok (.goto 9, 3) := by decide +kernel
theorem dX1_hull_44 : decode cX1_hull 44 = .ok (.aload 4, 2) := by decide +kernel
theorem dX1_hull_46 : decode cX1_hull 46 = .ok (.iload_n 2, 1) := by decide +kernel
theorem dX1_hull_47 : decode cX1_hull 47 = .ok (.invokevirtual 117, 3) := by decide +kernel
theorem dX1_hull_50 : decode cX1_hull 50 = .ok (.ireturn, 1) := by decide +kernel
theorem dX1_parts_0 : decode cX1_parts 0 = .ok (.aload_n 0, 1) := by decide +kernel
theorem dX1_parts_1 : decode cX1_parts 1 = .ok (.getfield 23, 3) := by decide +kernel
theorem dX1_parts_4 : decode cX1_parts 4 = .ok (.ireturn, 1) := by decide +kernel
theorem dX1_need_0 : decode cX1_need 0 = .ok (.iload_n 0, 1) := by decide +kernel
theorem dX1_need_1 : decode cX1_need 1 = .ok (.ifCond .ne 13, 3) := by decide +kernel
theorem dX1_need_4 : decode cX1_need 4 = .ok (.new 138, 3) := by decide +kernel
theorem dX1_need_7 : decode cX1_need 7 = .ok (.dup, 1) := by decide +kernel
theorem dX1_need_8 : decode cX1_need 8 = .ok (.ldc 140, 2) := by decide +kernel
theorem dX1_need_10 : decode cX1_need 10 = .ok (.invokespecial 142, 3) := by decide +kernel
theorem dX1_need_13 : decode cX1_need 13 = .ok (.athrow, 1) := by decide +kernel
theorem dX1_need_14 : decode cX1_need 14 = .ok (.return_, 1) := by decide +kernel
theorem dX1_needRoom_0 : decode cX1_needRoom 0 = .ok (.aload_n 0, 1) := by decide +kernel
theorem dX1_needRoom_1 : decode cX1_needRoom 1 = .ok (.getfield 19, 3) := by decide +kernel
theorem dX1_needRoom_4 : decode cX1_needRoom 4 = .ok (.bipush 60, 2) := by decide +kernel
theorem dX1_needRoom_6 : decode cX1_needRoom 6 = .ok (.if_icmp .lt 13, 3) := by decide +kernel
theorem dX1_needRoom_9 : decode cX1_needRoom 9 = .ok (.new 145, 3) := by decide +kernel
theorem dX1_needRoom_12 : decode cX1_needRoom 12 = .ok (.dup, 1) := by decide +kernel
theorem dX1_needRoom_13 : decode cX1_needRoom 13 = .ok (.ldc 147, 2) := by decide +kernel
theorem dX1_needRoom_15 : decode cX1_needRoom 15 = .ok (.invokespecial 149, 3) := by decide +kernel
theorem dX1_needRoom_18 : decode cX1_needRoom 18 = .ok (.athrow, 1) := by decide +kernel
theorem dX1_needRoom_19 : decode cX1_needRoom 19 = .ok (.return_, 1) := by decide +kernel
theorem dX1_isWithin_0 : decode cX1_isWithin 0 = .ok (.iload_n 0, 1) := by decide +kernel
theorem dX1_isWithin_1 : decode cX1_isWithin 1 = .ok (.iload_n 1, 1) := by decide +kernel
theorem dX1_isWithin_2 : decode cX1_isWithin 2 = .ok (.if_icmp .lt 12, 3) := by decide +kernel
theorem dX1_isWithin_5 : decode cX1_isWithin 5 = .ok (.iload_n 0, 1) := by decide +kernel
theorem dX1_isWithin_6 : decode cX1_isWithin 6 = .ok (.iload_n 2, 1) := by decide +kernel
theorem dX1_isWithin_7 : decode cX1_isWithin 7 = .ok (.if_icmp .gt 7, 3) := by decide +kernel
theorem dX1_isWithin_10 : decode cX1_isWithin 10 = .ok (.iconst 1, 1) := by decide +kernel
theorem dX1_isWithin_11 : decode cX1_isWithin 11 = .ok (.goto 4, 3) := by decide +kernel
theorem dX1_isWithin_14 : decode cX1_isWithin 14 = .ok (.iconst 0, 1) := by decide +kernel
theorem dX1_isWithin_15 : decode cX1_isWithin 15 = .ok (.ireturn, 1) := by decide +kernel
set_option maxRecDepth 20000 in
theorem ggX1_isKind_X1_isWithin : GoodIn wsX1_isKind wsX1_isWithin := goodIn_r _ [4] (by decide +kernel) (by decide +kernel)
set_option maxRecDepth 20000 in
theorem gX1_isKind_X1_isWithin : GoodIn wsX1_isKind (va_wsS RX1 67 yX1_isWithin wsX1_isWithin) := goodIn_app (goodIn_of _ (by decide +kernel)) ggX1_isKind_X1_isWithin
theorem dX1_isKind_0 : decode cX1_isKind 0 = .ok (.iload_n 0, 1) := by decide +kernel
theorem dX1_isKind_1 : decode cX1_isKind 1 = .ok (.iconst 0, 1) := by decide +kernel
theorem dX1_isKind_2 : decode cX1_isKind 2 = .ok (.bipush 7, 2) := by decide +kernel
theorem dX1_isKind_4 : decode cX1_isKind 4 = .ok (.invokestatic 67, 3) := by decide +kernel
theorem dX1_isKind_7 : decode cX1_isKind 7 = .ok (.ireturn, 1) := by decide +kernel
set_option maxRecDepth 20000 in
theorem ggX1_isAxis_X1_isWithin : GoodIn wsX1_isAxis wsX1_isWithin := goodIn_r _ [4] (by decide +kernel) (by decide +kernel)
set_option maxRecDepth 20000 in
theorem gX1_isAxis_X1_isWithin : GoodIn wsX1_isAxis (va_wsS RX1 67 yX1_isWithin wsX1_isWithin) := goodIn_app (goodIn_of _ (by decide +kernel)) ggX1_isAxis_X1_isWithin
theorem dX1_isAxis_0 : decode cX1_isAxis 0 = .ok (.iload_n 0, 1) := by decide +kernel
theorem dX1_isAxis_1 : decode cX1_isAxis 1 = .ok (.iconst 0, 1) := by decide +kernel
theorem dX1_isAxis_2 : decode cX1_isAxis 2 = .ok (.iconst 2, 1) := by decide +kernel
theorem dX1_isAxis_3 : decode cX1_isAxis 3 = .ok (.invokestatic 67, 3) := by decide +kernel
theorem dX1_isAxis_6 : decode cX1_isAxis 6 = .ok (.ireturn, 1) := by decide +kernel
set_option maxRecDepth 20000 in
theorem ggX1_isSpan_X1_isWithin : GoodIn wsX1_isSpan wsX1_isWithin := goodIn_r _ [4] (by decide +kernel) (by decide +kernel)
set_option maxRecDepth 20000 in
theorem gX1_isSpan_X1_isWithin : GoodIn wsX1_isSpan (va_wsS RX1 67 yX1_isWithin wsX1_isWithin) := goodIn_app (goodIn_of _ (by decide +kernel)) ggX1_isSpan_X1_isWithin
theorem dX1_isSpan_0 : decode cX1_isSpan 0 = .ok (.iload_n 0, 1) := by decide +kernel
theorem dX1_isSpan_1 : decode cX1_isSpan 1 = .ok (.iconst 0, 1) := by decide +kernel
theorem dX1_isSpan_2 : decode cX1_isSpan 2 = .ok (.sipush 1000, 3) := by decide +kernel
theorem dX1_isSpan_5 : decode cX1_isSpan 5 = .ok (.invokestatic 67, 3) := by decide +kernel
theorem dX1_isSpan_8 : decode cX1_isSpan 8 = .ok (.ifCond .eq 27, 3) := by decide +kernel
theorem dX1_isSpan_11 : decode cX1_isSpan 11 = .ok (.iload_n 1, 1) := by decide +kernel
theorem dX1_isSpan_12 : decode cX1_isSpan 12 = .ok (.iconst 1, 1) := by decide +kernel
theorem dX1_isSpan_13 : decode cX1_isSpan 13 = .ok (.sipush 1000, 3) := by decide +kernel
theorem dX1_isSpan_16 : decode cX1_isSpan 16 = .ok (.invokestatic 67, 3) := by decide +kernel
theorem dX1_isSpan_19 : decode cX1_isSpan 19 = .ok (.ifCond .eq 16, 3) := by decide +kernel
theorem dX1_isSpan_22 : decode cX1_isSpan 22 = .ok (.iload_n 0, 1) := by decide +kernel
theorem dX1_isSpan_23 : decode cX1_isSpan 23 = .ok (.iload_n 1, 1) := by decide +kernel
theorem dX1_isSpan_24 : decode cX1_isSpan 24 = .ok (.iadd, 1) := by decide +kernel
theorem dX1_isSpan_25 : decode cX1_isSpan 25 = .ok (.sipush 1000, 3) := by decide +kernel
theorem dX1_isSpan_28 : decode cX1_isSpan 28 = .ok (.if_icmp .gt 7, 3) := by decide +kernel
theorem dX1_isSpan_31 : decode cX1_isSpan 31 = .ok (.iconst 1, 1) := by decide +kernel
theorem dX1_isSpan_32 : decode cX1_isSpan 32 = .ok (.goto 4, 3) := by decide +kernel
theorem dX1_isSpan_35 : decode cX1_isSpan 35 = .ok (.iconst 0, 1) := by decide +kernel
theorem dX1_isSpan_36 : decode cX1_isSpan 36 = .ok (.ireturn, 1) := by decide +kernel
set_option maxRecDepth 20000 in
theorem ggX1_isSeen_X1_isWithin : GoodIn wsX1_isSeen wsX1_isWithin := goodIn_r _ [4] (by decide +kernel) (by decide +kernel)
set_option maxRecDepth 20000 in
theorem gX1_isSeen_X1_isWithin : GoodIn wsX1_isSeen (va_wsS RX1 67 yX1_isWithin wsX1_isWithin) := goodIn_app (goodIn_of _ (by decide +kernel)) ggX1_isSeen_X1_isWithin
theorem dX1_isSeen_0 : decode cX1_isSeen 0 = .ok (.iload_n 0, 1) := by decide +kernel
theorem dX1_isSeen_1 : decode cX1_isSeen 1 = .ok (.sipush (-2000), 3) := by decide +kernel
theorem dX1_isSeen_4 : decode cX1_isSeen 4 = .ok (.sipush 2000, 3) := by decide +kernel
theorem dX1_isSeen_7 : decode cX1_isSeen 7 = .ok (.invokestatic 67, 3) := by decide +kernel
theorem dX1_isSeen_10 : decode cX1_isSeen 10 = .ok (.ifCond .eq 25, 3) := by decide +kernel
theorem dX1_isSeen_13 : decode cX1_isSeen 13 = .ok (.iload_n 1, 1) := by decide +kernel
theorem dX1_isSeen_14 : decode cX1_isSeen 14 = .ok (.sipush (-2000), 3) := by decide +kernel
theorem dX1_isSeen_17 : decode cX1_isSeen 17 = .ok (.sipush 2000, 3) := by decide +kernel
theorem dX1_isSeen_20 : decode cX1_isSeen 20 = .ok (.invokestatic 67, 3) := by decide +kernel
theorem dX1_isSeen_23 : decode cX1_isSeen 23 = .ok (.ifCond .eq 12, 3) := by decide +kernel
theorem dX1_isSeen_26 : decode cX1_isSeen 26 = .ok (.iload_n 0, 1) := by decide +kernel
theorem dX1_isSeen_27 : decode cX1_isSeen 27 = .ok (.iload_n 1, 1) := by decide +kernel
theorem dX1_isSeen_28 : decode cX1_isSeen 28 = .ok (.if_icmp .ge 7, 3) := by decide +kernel
theorem dX1_isSeen_31 : decode cX1_isSeen 31 = .ok (.iconst 1, 1) := by decide +kernel
theorem dX1_isSeen_32 : decode cX1_isSeen 32 = .ok (.goto 4, 3) := by decide +kernel
theorem dX1_isSeen_35 : decode cX1_isSeen 35 = .ok (.iconst 0, 1) := by decide +kernel
theorem dX1_isSeen_36 : decode cX1_isSeen 36 = .ok (.ireturn, 1) := by decide +kernel
set_option maxRecDepth 20000 in
theorem ggX1_isThere_X1_isWithin : GoodIn wsX1_isThere wsX1_isWithin := goodIn_r _ [5] (by decide +kernel) (by decide +kernel)
set_option maxRecDepth 20000 in
theorem gX1_isThere_X1_isWithin : GoodIn wsX1_isThere (va_wsS RX1 67 yX1_isWithin wsX1_isWithin) := goodIn_app (goodIn_of _ (by decide +kernel)) ggX1_isThere_X1_isWithin
theorem dX1_isThere_0 : decode cX1_isThere 0 = .ok (.iload_n 1, 1) := by decide +kernel
theorem dX1_isThere_1 : decode cX1_isThere 1 = .ok (.iconst 0, 1) := by decide +kernel
theorem dX1_isThere_2 : decode cX1_isThere 2 = .ok (.bipush 59, 2) := by decide +kernel
theorem dX1_isThere_4 : decode cX1_isThere 4 = .ok (.invokestatic 67, 3) := by decide +kernel
theorem dX1_isThere_7 : decode cX1_isThere 7 = .ok (.ifCond .eq 16, 3) := by decide +kernel
theorem dX1_isThere_10 : decode cX1_isThere 10 = .ok (.aload_n 0, 1) := by decide +kernel
theorem dX1_isThere_11 : decode cX1_isThere 11 = .ok (.getfield 11, 3) := by decide +kernel
theorem dX1_isThere_14 : decode cX1_isThere 14 = .ok (.iload_n 1, 1) := by decide +kernel
theorem dX1_isThere_15 : decode cX1_isThere 15 = .ok (.aaload, 1) := by decide +kernel
theorem dX1_isThere_16 : decode cX1_isThere 16 = .ok (.ifnull 7, 3) := by decide +kernel
theorem dX1_isThere_19 : decode cX1_isThere 19 = .ok (.iconst 1, 1) := by decide +kernel
theorem dX1_isThere_20 : decode cX1_isThere 20 = .ok (.goto 4, 3) := by decide +kernel
theorem dX1_isThere_23 : decode cX1_isThere 23 = .ok (.iconst 0, 1) := by decide +kernel
theorem dX1_isThere_24 : decode cX1_isThere 24 = .ok (.ireturn, 1) := by decide +kernel
set_option maxRecDepth 20000 in
theorem ggX1_partAt_X1_isWithin : GoodIn wsX1_partAt wsX1_isWithin := goodIn_r _ [7] (by decide +kernel) (by decide +kernel)
set_option maxRecDepth 20000 in
theorem gX1_partAt_X1_isWithin : GoodIn wsX1_partAt (va_wsS RX1 67 yX1_isWithin wsX1_isWithin) := goodIn_app (goodIn_of _ (by decide +kernel)) ggX1_partAt_X1_isWithin
theorem dX1_partAt_0 : decode cX1_partAt 0 = .ok (.iload_n 1, 1) := by decide +kernel
theorem dX1_partAt_1 : decode cX1_partAt 1 = .ok (.iconst 0, 1) := by decide +kernel
theorem dX1_partAt_2 : decode cX1_partAt 2 = .ok (.bipush 59, 2) := by decide +kernel
theorem dX1_partAt_4 : decode cX1_partAt 4 = .ok (.invokestatic 67, 3) := by decide +kernel
theorem dX1_partAt_7 : decode cX1_partAt 7 = .ok (.ifCond .eq 12, 3) := by decide +kernel
theorem dX1_partAt_10 : decode cX1_partAt 10 = .ok (.aload_n 0, 1) := by decide +kernel
theorem dX1_partAt_11 : decode cX1_partAt 11 = .ok (.getfield 11, 3) := by decide +kernel
theorem dX1_partAt_14 : decode cX1_partAt 14 = .ok (.iload_n 1, 1) := by decide +kernel
theorem dX1_partAt_15 : decode cX1_partAt 15 = .ok (.aaload, 1) := by decide +kernel
theorem dX1_partAt_16 : decode cX1_partAt 16 = .ok (.goto 4, 3) := by decide +kernel
theorem dX1_partAt_19 : decode cX1_partAt 19 = .ok (.aconst_null, 1) := by decide +kernel
theorem dX1_partAt_20 : decode cX1_partAt 20 = .ok (.astore_n 2, 1) := by decide +kernel
theorem dX1_partAt_21 : decode cX1_partAt 21 = .ok (.aload_n 2, 1) := by decide +kernel
theorem dX1_partAt_22 : decode cX1_partAt 22 = .ok (.ifnonnull 13, 3) := by decide +kernel
theorem dX1_partAt_25 : decode cX1_partAt 25 = .ok (.new 138, 3) := by decide +kernel
theorem dX1_partAt_28 : decode cX1_partAt 28 = .ok (.dup, 1) := by decide +kernel
theorem dX1_partAt_29 : decode cX1_partAt 29 = .ok (.ldc 150, 2) := by decide +kernel
theorem dX1_partAt_31 : decode cX1_partAt 31 = .ok (.invokespecial 142, 3) := by decide +kernel
theorem dX1_partAt_34 : decode cX1_partAt 34 = .ok (.athrow, 1) := by decide +kernel
theorem dX1_partAt_35 : decode cX1_partAt 35 = .ok (.aload_n 2, 1) := by decide +kernel
theorem dX1_partAt_36 : decode cX1_partAt 36 = .ok (.areturn, 1) := by decide +kernel
theorem dX1_add_0 : decode cX1_add 0 = .ok (.aload_n 0, 1) := by decide +kernel
theorem dX1_add_1 : decode cX1_add 1 = .ok (.getfield 19, 3) := by decide +kernel
theorem dX1_add_4 : decode cX1_add 4 = .ok (.istore_n 2, 1) := by decide +kernel
theorem dX1_add_5 : decode cX1_add 5 = .ok (.aload_n 0, 1) := by decide +kernel
theorem dX1_add_6 : decode cX1_add 6 = .ok (.getfield 11, 3) := by decide +kernel
theorem dX1_add_9 : decode cX1_add 9 = .ok (.iload_n 2, 1) := by decide +kernel
theorem dX1_add_10 : decode cX1_add 10 = .ok (.aload_n 1, 1) := by decide +kernel
theorem dX1_add_11 : decode cX1_add 11 = .ok (.aastore, 1) := by decide +kernel
theorem dX1_add_12 : decode cX1_add 12 = .ok (.aload_n 0, 1) := by decide +kernel
theorem dX1_add_13 : decode cX1_add 13 = .ok (.dup, 1) := by decide +kernel
theorem dX1_add_14 : decode cX1_add 14 = .ok (.getfield 19, 3) := by decide +kernel
theorem dX1_add_17 : decode cX1_add 17 = .ok (.iconst 1, 1) := by decide +kernel
theorem dX1_add_18 : decode cX1_add 18 = .ok (.iadd, 1) := by decide +kernel
theorem dX1_add_19 : decode cX1_add 19 = .ok (.putfield 19, 3) := by decide +kernel
theorem dX1_add_22 : decode cX1_add 22 = .ok (.aload_n 0, 1) := by decide +kernel
theorem dX1_add_23 : decode cX1_add 23 = .ok (.dup, 1) := by decide +kernel
theorem dX1_add_24 : decode cX1_add 24 = .ok (.getfield 23, 3) := by decide +kernel
theorem dX1_add_27 : decode cX1_add 27 = .ok (.iconst 1, 1) := by decide +kernel
theorem dX1_add_28 : decode cX1_add 28 = .ok (.iadd, 1) := by decide +kernel
theorem dX1_add_29 : decode cX1_add 29 = .ok (.putfield 23, 3) := by decide +kernel
theorem dX1_add_32 : decode cX1_add 32 = .ok (.iload_n 2, 1) := by decide +kernel
theorem dX1_add_33 : decode cX1_add 33 = .ok (.ireturn, 1) := by decide +kernel
theorem dX1_areFree_0 : decode cX1_areFree 0 = .ok (.aload_n 0, 1) := by decide +kernel
theorem dX1_areFree_1 : decode cX1_areFree 1 = .ok (.getfield 15, 3) := by decide +kernel
theorem dX1_areFree_4 : decode cX1_areFree 4 = .ok (.iload_n 1, 1) := by decide +kernel
theorem dX1_areFree_5 : decode cX1_areFree 5 = .ok (.bipush 8, 2) := by decide +kernel
theorem dX1_areFree_7 : decode cX1_areFree 7 = .ok (.imul, 1) := by decide +kernel
theorem dX1_areFree_8 : decode cX1_areFree 8 = .ok (.iload_n 2, 1) := by decide +kernel
theorem dX1_areFree_9 : decode cX1_areFree 9 = .ok (.iadd, 1) := by decide +kernel
theorem dX1_areFree_10 : decode cX1_areFree 10 = .ok (.baload, 1) := by decide +kernel
theorem dX1_areFree_11 : decode cX1_areFree 11 = .ok (.ireturn, 1) := by decide +kernel
set_option maxRecDepth 20000 in
theorem ggX1_stateOf_X1_areFree : GoodIn wsX1_stateOf wsX1_areFree := goodIn_r _ [7, 8, 55, 56, 57, 58, 59, 60, 61, 62] (by decide +kernel) (by decide +kernel)
set_option maxRecDepth 20000 in
theorem gX1_stateOf_X1_areFree : GoodIn wsX1_stateOf (wsV RX1 78 RX1 yX1_areFree wsX1_areFree) := goodIn_app (goodIn_of _ (by decide +kernel)) ggX1_stateOf_X1_areFree
set_option maxRecDepth 20000 in
theorem ggX1_stateOf_X1_meet : GoodIn wsX1_stateOf wsX1_meet := goodIn_r _ [11, 12, 13, 6, 14, 15, 16, 17, 18, 19, 20, 21, 22, 23, 24, 25, 26, 27, 28, 29, 30, 31, 32, 33, 34, 35, 36, 37, 38, 39, 40, 41, 42, 43, 44, 45, 46, 47, 48, 49, 50, 51, 52, 53, 54] (by decide +kernel) (by decide +kernel)
set_option maxRecDepth 20000 in
theorem gX1_stateOf_X1_meet : GoodIn wsX1_stateOf (va_wsS RX1 155 yX1_meet wsX1_meet) := goodIn_app (goodIn_of _ (by decide +kernel)) ggX1_stateOf_X1_meet
theorem dX1_stateOf_0 : decode cX1_stateOf 0 = .ok (.aload_n 0, 1) := by decide +kernel
theorem dX1_stateOf_1 : decode cX1_stateOf 1 = .ok (.aload_n 1, 1) := by decide +kernel
theorem dX1_stateOf_2 : decode cX1_stateOf 2 = .ok (.getfield 152, 3) := by decide +kernel
theorem dX1_stateOf_5 : decode cX1_stateOf 5 = .ok (.aload_n 2, 1) := by decide +kernel
theorem dX1_stateOf_6 : decode cX1_stateOf 6 = .ok (.getfield 152, 3) := by decide +kernel
theorem dX1_stateOf_9 : decode cX1_stateOf 9 = .ok (.invokevirtual 78, 3) := by decide +kernel
theorem dX1_stateOf_12 : decode cX1_stateOf 12 = .ok (.ifCond .eq 5, 3) := by decide +kernel
theorem dX1_stateOf_15 : decode cX1_stateOf 15 = .ok (.iconst 0, 1) := by decide +kernel
theorem dX1_stateOf_16 : decode cX1_stateOf 16 = .ok (.ireturn, 1) := by decide +kernel
theorem dX1_stateOf_17 : decode cX1_stateOf 17 = .ok (.aload_n 1, 1) := by decide +kernel
theorem dX1_stateOf_18 : decode cX1_stateOf 18 = .ok (.iconst 0, 1) := by decide +kernel
theorem dX1_stateOf_19 : decode cX1_stateOf 19 = .ok (.aload_n 2, 1) := by decide +kernel
theorem dX1_stateOf_20 : decode cX1_stateOf 20 = .ok (.invokestatic 155, 3) := by decide +kernel
theorem dX1_stateOf_23 : decode cX1_stateOf 23 = .ok (.ifCond .eq 5, 3) := by decide +kernel
theorem dX1_stateOf_26 : decode cX1_stateOf 26 = .ok (.iconst 2, 1) := by decide +kernel
theorem dX1_stateOf_27 : decode cX1_stateOf 27 = .ok (.ireturn, 1) := by decide +kernel
theorem dX1_stateOf_28 : decode cX1_stateOf 28 = .ok (.aload_n 1, 1) := by decide +kernel
theorem dX1_stateOf_29 : decode cX1_stateOf 29 = .ok (.getfield 75, 3) := by decide +kernel
theorem dX1_stateOf_32 : decode cX1_stateOf 32 = .ok (.ifCond .le 15, 3) := by decide +kernel
theorem dX1_stateOf_35 : decode cX1_stateOf 35 = .ok (.aload_n 1, 1) := by decide +kernel
theorem dX1_stateOf_36 : decode cX1_stateOf 36 = .ok (.aload_n 1, 1) := by decide +kernel
theorem dX1_stateOf_37 : decode cX1_stateOf 37 = .ok (.getfield 75, 3) := by decide +kernel
theorem dX1_stateOf_40 : decode cX1_stateOf 40 = .ok (.aload_n 2, 1) := by decide +kernel
theorem dX1_stateOf_41 : decode cX1_stateOf 41 = .ok (.invokestatic 155, 3) := by decide +kernel
theorem dX1_stateOf_44 : decode cX1_stateOf 44 = .ok (.ifCond .ne 22, 3) := by decide +kernel
theorem dX1_stateOf_47 : decode cX1_stateOf 47 = .ok (.aload_n 2, 1) := by decide +kernel
theorem dX1_stateOf_48 : decode cX1_stateOf 48 = .ok (.getfield 75, 3) := by decide +kernel
theorem dX1_stateOf_51 : decode cX1_stateOf 51 = .ok (.ifCond .le 19, 3) := by decide +kernel
theorem dX1_stateOf_54 : decode cX1_stateOf 54 = .ok (.aload_n 2, 1) := by decide +kernel
theorem dX1_stateOf_55 : decode cX1_stateOf 55 = .ok (.aload_n 2, 1) := by decide +kernel
theorem dX1_stateOf_56 : decode cX1_stateOf 56 = .ok (.getfield 75, 3) := by decide +kernel
theorem dX1_stateOf_59 : decode cX1_stateOf 59 = .ok (.aload_n 1, 1) := by decide +kernel
theorem dX1_stateOf_60 : decode cX1_stateOf 60 = .ok (.invokestatic 155, 3) := by decide +kernel
theorem dX1_stateOf_63 : decode cX1_stateOf 63 = .ok (.ifCond .eq 7, 3) := by decide +kernel
theorem dX1_stateOf_66 : decode cX1_stateOf 66 = .ok (.iconst 1, 1) := by decide +kernel
theorem dX1_stateOf_67 : decode cX1_stateOf 67 = .ok (.goto 4, 3) := by decide +kernel
theorem dX1_stateOf_70 : decode cX1_stateOf 70 = .ok (.iconst 0, 1) := by decide +kernel
theorem dX1_stateOf_71 : decode cX1_stateOf 71 = .ok (.istore_n 3, 1) := by decide +kernel
theorem dX1_stateOf_72 : decode cX1_stateOf 72 = .ok (.iload_n 3, 1) := by decide +kernel
theorem dX1_stateOf_73 : decode cX1_stateOf 73 = .ok (.ifCond .eq 7, 3) := by decide +kernel
theorem dX1_stateOf_76 : decode cX1_stateOf 76 = .ok (.iconst 1, 1) := by decide +kernel
theorem dX1_stateOf_77 : decode cX1_stateOf 77 = .ok (.goto 4, 3) := by decide +kernel
theorem dX1_stateOf_80 : decode cX1_stateOf 80 = .ok (.iconst 0, 1) := by decide +kernel
theorem dX1_stateOf_81 : decode cX1_stateOf 81 = .ok (.ireturn, 1) := by decide +kernel
set_option maxRecDepth 20000 in
theorem ggX1_meet_X1_roundAxis : GoodIn wsX1_meet wsX1_roundAxis := goodIn_r _ [4, 5, 6, 7, 8, 9, 10, 11, 39, 40, 41, 42, 43, 44] (by decide +kernel) (by decide +kernel)
set_option maxRecDepth 20000 in
theorem gX1_meet_X1_roundAxis : GoodIn wsX1_meet (va_wsS RX1 159 yX1_roundAxis wsX1_roundAxis) := goodIn_app (goodIn_of _ (by decide +kernel)) ggX1_meet_X1_roundAxis
set_option maxRecDepth 20000 in
theorem ggX1_meet_X1_overlap : GoodIn wsX1_meet wsX1_overlap := goodIn_r _ [14, 15, 16, 17, 9, 18, 11, 19, 20, 21, 22, 23, 24, 25, 39, 40, 41, 42, 43, 44] (by decide +kernel) (by decide +kernel)
set_option maxRecDepth 20000 in
theorem gX1_meet_X1_overlap : GoodIn wsX1_meet (va_wsS RX1 162 yX1_overlap wsX1_overlap) := goodIn_app (goodIn_of _ (by decide +kernel)) ggX1_meet_X1_overlap
set_option maxRecDepth 20000 in
theorem ggX1_meet_X1_isNear : GoodIn wsX1_meet wsX1_isNear := goodIn_r _ [28, 29, 30, 31, 32, 33, 6, 7, 8, 9, 10, 11, 34, 35, 3, 36, 37, 38, 39, 40, 41, 42, 43, 44] (by decide +kernel) (by decide +kernel)
set_option maxRecDepth 20000 in
theorem gX1_meet_X1_isNear : GoodIn wsX1_meet (va_wsS RX1 166 yX1_isNear wsX1_isNear) := goodIn_app (goodIn_of _ (by decide +kernel)) ggX1_meet_X1_isNear
theorem dX1_meet_0 : decode cX1_meet 0 = .ok (.aload_n 0, 1) := by decide +kernel
theorem dX1_meet_1 : decode cX1_meet 1 = .ok (.aload_n 2, 1) := by decide +kernel
theorem dX1_meet_2 : decode cX1_meet 2 = .ok (.invokestatic 159, 3) := by decide +kernel
theorem dX1_meet_5 : decode cX1_meet 5 = .ok (.istore_n 3, 1) := by decide +kernel
theorem dX1_meet_6 : decode cX1_meet 6 = .ok (.iload_n 3, 1) := by decide +kernel
theorem dX1_meet_7 : decode cX1_meet 7 = .ok (.iconst (-1), 1) := by decide +kernel
theorem dX1_meet_8 : decode cX1_meet 8 = .ok (.if_icmp .ne 39, 3) := by decide +kernel
theorem dX1_meet_11 : decode cX1_meet 11 = .ok (.aload_n 0, 1) := by decide +kernel
theorem dX1_meet_12 : decode cX1_meet 12 = .ok (.iload_n 1, 1) := by decide +kernel
theorem dX1_meet_13 : decode cX1_meet 13 = .ok (.aload_n 2, 1) := by decide +kernel
theorem dX1_meet_14 : decode cX1_meet 14 = .ok (.iconst 0, 1) := by decide +kernel
theorem dX1_meet_15 : decode cX1_meet 15 = .ok (.invokestatic 162, 3) := by decide +kernel
theorem dX1_meet_18 : decode cX1_meet 18 = .ok (.ifCond .eq 27, 3) := by decide +kernel
theorem dX1_meet_21 : decode cX1_meet 21 = .ok (.aload_n 0, 1) := by decide +kernel
theorem dX1_meet_22 : decode cX1_meet 22 = .ok (.iload_n 1, 1) := by decide +kernel
theorem dX1_meet_23 : decode cX1_meet 23 = .ok (.aload_n 2, 1) := by decide +kernel
theorem dX1_meet_24 : decode cX1_meet 24 = .ok (.iconst 1, 1) := by decide +kernel
theorem dX1_meet_25 : decode cX1_meet 25 = .ok (.invokestatic 162, 3) := by decide +kernel
theorem dX1_meet_28 : decode cX1_meet 28 = .ok (.ifCond .eq 17, 3) := by decide +kernel
theorem dX1_meet_31 : decode cX1_meet 31 = .ok (.aload_n 0, 1) := by decide +kernel
theorem dX1_meet_32 : decode cX1_meet 32 = .ok (.iload_n 1, 1) := by decide +kernel
theorem dX1_meet_33 : decode cX1_meet 33 = .ok (.aload_n 2, 1) := by decide +kernel
theorem dX1_meet_34 : decode cX1_meet 34 = .ok (.iconst 2, 1) := by decide +kernel
theorem dX1_meet_35 : decode cX1_meet 35 = .ok (.invokestatic 162, 3) := by decide +kernel
theorem dX1_meet_38 : decode cX1_meet 38 = .ok (.ifCond .eq 7, 3) := by decide +kernel
theorem dX1_meet_41 : decode cX1_meet 41 = .ok (.iconst 1, 1) := by decide +kernel
theorem dX1_meet_42 : decode cX1_meet 42 = .ok (.goto 4, 3) := by decide +kernel
theorem dX1_meet_45 : decode cX1_meet 45 = .ok (.iconst 0, 1) := by decide +kernel
theorem dX1_meet_46 : decode cX1_meet 46 = .ok (.ireturn, 1) := by decide +kernel
theorem dX1_meet_47 : decode cX1_meet 47 = .ok (.aload_n 0, 1) := by decide +kernel
theorem dX1_meet_48 : decode cX1_meet 48 = .ok (.iload_n 1, 1) := by decide +kernel
theorem dX1_meet_49 : decode cX1_meet 49 = .ok (.aload_n 2, 1) := by decide +kernel
theorem dX1_meet_50 : decode cX1_meet 50 = .ok (.iload_n 3, 1) := by decide +kernel
theorem dX1_meet_51 : decode cX1_meet 51 = .ok (.invokestatic 162, 3) := by decide +kernel
theorem dX1_meet_54 : decode cX1_meet 54 = .ok (.ifCond .eq 17, 3) := by decide +kernel
theorem dX1_meet_57 : decode cX1_meet 57 = .ok (.aload_n 0, 1) := by decide +kernel
theorem dX1_meet_58 : decode cX1_meet 58 = .ok (.iload_n 1, 1) := by decide +kernel
theorem dX1_meet_59 : decode cX1_meet 59 = .ok (.aload_n 2, 1) := by decide +kernel
theorem dX1_meet_60 : decode cX1_meet 60 = .ok (.iload_n 3, 1) := by decide +kernel
theorem dX1_meet_61 : decode cX1_meet 61 = .ok (.invokestatic 166, 3) := by decide +kernel
theorem dX1_meet_64 : decode cX1_meet 64 = .ok (.ifCond .eq 7, 3) := by decide +kernel
theorem dX1_meet_67 : decode cX1_meet 67 = .ok (.iconst 1, 1) := by decide +kernel
theorem dX1_meet_68 : decode cX1_meet 68 = .ok (.goto 4, 3) := by decide +kernel
theorem dX1_meet_71 : decode cX1_meet 71 = .ok (.iconst 0, 1) := by decide +kernel
theorem dX1_meet_72 : decode cX1_meet 72 = .ok (.ireturn, 1) := by decide +kernel
set_option maxRecDepth 20000 in
theorem ggX1_roundAxis_X0_isTube : GoodIn wsX1_roundAxis wsX0_isTube := goodIn_r _ [6, 7, 8, 9, 10, 11, 12, 13] (by decide +kernel) (by decide +kernel)
set_option maxRecDepth 20000 in
theorem gX1_roundAxis_X0_isTube : GoodIn wsX1_roundAxis (wsV RX1 169 RX0 yX0_isTube wsX0_isTube) := goodIn_app (goodIn_of _ (by decide +kernel)) ggX1_roundAxis_X0_isTube
theorem dX1_roundAxis_0 : decode cX1_roundAxis 0 = .ok (.aload_n 0, 1) := by decide +kernel
theorem dX1_roundAxis_1 : decode cX1_roundAxis 1 = .ok (.invokevirtual 169, 3) := by decide +kernel
theorem dX1_roundAxis_4 : decode cX1_roundAxis 4 = .ok (.ifCond .ne 8, 3) := by decide +kernel
theorem dX1_roundAxis_7 : decode cX1_roundAxis 7 = .ok (.aload_n 1, 1) := by decide +kernel
theorem dX1_roundAxis_8 : decode cX1_roundAxis 8 = .ok (.getfield 173, 3) := by decide +kernel
theorem dX1_roundAxis_11 : decode cX1_roundAxis 11 = .ok (.ireturn, 1) := by decide +kernel
theorem dX1_roundAxis_12 : decode cX1_roundAxis 12 = .ok (.aload_n 1, 1) := by decide +kernel
theorem dX1_roundAxis_13 : decode cX1_roundAxis 13 = .ok (.invokevirtual 169, 3) := by decide +kernel
theorem dX1_roundAxis_16 : decode cX1_roundAxis 16 = .ok (.ifCond .eq 14, 3) := by decide +kernel
theorem dX1_roundAxis_19 : decode cX1_roundAxis 19 = .ok (.aload_n 1, 1) := by decide +kernel
theorem dX1_roundAxis_20 : decode cX1_roundAxis 20 = .ok (.getfield 173, 3) := by decide +kernel
theorem dX1_roundAxis_23 : decode cX1_roundAxis 23 = .ok (.aload_n 0, 1) := by decide +kernel
theorem dX1_roundAxis_24 : decode cX1_roundAxis 24 = .ok (.getfield 173, 3) := by decide +kernel
theorem dX1_roundAxis_27 : decode cX1_roundAxis 27 = .ok (.if_icmp .ne 10, 3) := by decide +kernel
theorem dX1_roundAxis_30 : decode cX1_roundAxis 30 = .ok (.aload_n 0, 1) := by decide +kernel
theorem dX1_roundAxis_31 : decode cX1_roundAxis 31 = .ok (.getfield 173, 3) := by decide +kernel
theorem dX1_roundAxis_34 : decode cX1_roundAxis 34 = .ok (.goto 4, 3) := by decide +kernel
theorem dX1_roundAxis_37 : decode cX1_roundAxis 37 = .ok (.iconst (-1), 1) := by decide +kernel
theorem dX1_roundAxis_38 : decode cX1_roundAxis 38 = .ok (.ireturn, 1) := by decide +kernel
set_option maxRecDepth 20000 in
theorem ggX1_overlap_X0_hullLeast : GoodIn wsX1_overlap wsX0_hullLeast := goodIn_r _ [5, 6, 7, 8, 14, 15, 16, 17, 18, 19] (by decide +kernel) (by decide +kernel)
set_option maxRecDepth 20000 in
theorem gX1_overlap_X0_hullLeast : GoodIn wsX1_overlap (wsV RX1 108 RX0 yX0_hullLeast wsX0_hullLeast) := goodIn_app (goodIn_of _ (by decide +kernel)) ggX1_overlap_X0_hullLeast
set_option maxRecDepth 20000 in
theorem ggX1_overlap_X0_hullGreatest : GoodIn wsX1_overlap wsX0_hullGreatest := goodIn_r _ [12, 6, 13, 8, 14, 15, 16, 17, 18, 19] (by decide +kernel) (by decide +kernel)
set_option maxRecDepth 20000 in
theorem gX1_overlap_X0_hullGreatest : GoodIn wsX1_overlap (wsV RX1 117 RX0 yX0_hullGreatest wsX0_hullGreatest) := goodIn_app (goodIn_of _ (by decide +kernel)) ggX1_overlap_X0_hullGreatest
theorem dX1_overlap_0 : decode cX1_overlap 0 = .ok (.aload_n 0, 1) := by decide +kernel
theorem dX1_overlap_1 : decode cX1_overlap 1 = .ok (.iload_n 3, 1) := by decide +kernel
theorem dX1_overlap_2 : decode cX1_overlap 2 = .ok (.invokevirtual 108, 3) := by decide +kernel
theorem dX1_overlap_5 : decode cX1_overlap 5 = .ok (.iload_n 1, 1) := by decide +kernel
theorem dX1_overlap_6 : decode cX1_overlap 6 = .ok (.isub, 1) := by decide +kernel
theorem dX1_overlap_7 : decode cX1_overlap 7 = .ok (.aload_n 2, 1) := by decide +kernel
theorem dX1_overlap_8 : decode cX1_overlap 8 = .ok (.iload_n 3, 1) := by decide +kernel
theorem dX1_overlap_9 : decode cX1_overlap 9 = .ok (.invokevirtual 117, 3) := by decide +kernel
theorem dX1_overlap_12 : decode cX1_overlap 12 = .ok (.if_icmp .ge 22, 3) := by decide +kernel
theorem dX1_overlap_15 : decode cX1_overlap 15 = .ok (.aload_n 2, 1) := by decide +kernel
theorem dX1_overlap_16 : decode cX1_overlap 16 = .ok (.iload_n 3, 1) := by decide +kernel
theorem dX1_overlap_17 : decode cX1_overlap 17 = .ok (.invokevirtual 108, 3) := by decide +kernel
theorem dX1_overlap_20 : decode cX1_overlap 20 = .ok (.aload_n 0, 1) := by decide +kernel
theorem dX1_overlap_21 : decode cX1_overlap 21 = .ok (.iload_n 3, 1) := by decide +kernel
theorem dX1_overlap_22 : decode cX1_overlap 22 = .ok (.invokevirtual 117, 3) := by decide +kernel
theorem dX1_overlap_25 : decode cX1_overlap 25 = .ok (.iload_n 1, 1) := by decide +kernel
theorem dX1_overlap_26 : decode cX1_overlap 26 = .ok (.iadd, 1) := by decide +kernel
theorem dX1_overlap_27 : decode cX1_overlap 27 = .ok (.if_icmp .ge 7, 3) := by decide +kernel
theorem dX1_overlap_30 : decode cX1_overlap 30 = .ok (.iconst 1, 1) := by decide +kernel
theorem dX1_overlap_31 : decode cX1_overlap 31 = .ok (.goto 4, 3) := by decide +kernel
theorem dX1_overlap_34 : decode cX1_overlap 34 = .ok (.iconst 0, 1) := by decide +kernel
theorem dX1_overlap_35 : decode cX1_overlap 35 = .ok (.ireturn, 1) := by decide +kernel
set_option maxRecDepth 20000 in
theorem ggX1_isNear_X0_isTube : GoodIn wsX1_isNear wsX0_isTube := goodIn_r _ [10, 11, 18, 19, 20, 21, 22, 23] (by decide +kernel) (by decide +kernel)
set_option maxRecDepth 20000 in
theorem gX1_isNear_X0_isTube : GoodIn wsX1_isNear (wsV RX1 169 RX0 yX0_isTube wsX0_isTube) := goodIn_app (goodIn_of _ (by decide +kernel)) ggX1_isNear_X0_isTube
set_option maxRecDepth 20000 in
theorem ggX1_isNear_X1_coreGap : GoodIn wsX1_isNear wsX1_coreGap := goodIn_r _ [15, 16, 17, 2, 3, 4, 5, 18, 19, 20, 21, 22, 23] (by decide +kernel) (by decide +kernel)
set_option maxRecDepth 20000 in
theorem gX1_isNear_X1_coreGap : GoodIn wsX1_isNear (va_wsS RX1 179 yX1_coreGap wsX1_coreGap) := goodIn_app (goodIn_of _ (by decide +kernel)) ggX1_isNear_X1_coreGap
theorem dX1_isNear_0 : decode cX1_isNear 0 = .ok (.aload_n 0, 1) := by decide +kernel
theorem dX1_isNear_1 : decode cX1_isNear 1 = .ok (.invokevirtual 169, 3) := by decide +kernel
theorem dX1_isNear_4 : decode cX1_isNear 4 = .ok (.ifCond .eq 7, 3) := by decide +kernel
theorem dX1_isNear_7 : decode cX1_isNear 7 = .ok (.iconst 0, 1) := by decide +kernel
theorem dX1_isNear_8 : decode cX1_isNear 8 = .ok (.goto 4, 3) := by decide +kernel
theorem dX1_isNear_11 : decode cX1_isNear 11 = .ok (.iload_n 1, 1) := by decide +kernel
theorem dX1_isNear_12 : decode cX1_isNear 12 = .ok (.istore 4, 2) := by decide +kernel
theorem dX1_isNear_14 : decode cX1_isNear 14 = .ok (.aload_n 0, 1) := by decide +kernel
theorem dX1_isNear_15 : decode cX1_isNear 15 = .ok (.getfield 176, 3) := by decide +kernel
theorem dX1_isNear_18 : decode cX1_isNear 18 = .ok (.aload_n 2, 1) := by decide +kernel
theorem dX1_isNear_19 : decode cX1_isNear 19 = .ok (.getfield 176, 3) := by decide +kernel
theorem dX1_isNear_22 : decode cX1_isNear 22 = .ok (.iadd, 1) := by decide +kernel
theorem dX1_isNear_23 : decode cX1_isNear 23 = .ok (.iload_n 1, 1) := by decide +kernel
theorem dX1_isNear_24 : decode cX1_isNear 24 = .ok (.iadd, 1) := by decide +kernel
theorem dX1_isNear_25 : decode cX1_isNear 25 = .ok (.iload 4, 2) := by decide +kernel
theorem dX1_isNear_27 : decode cX1_isNear 27 = .ok (.isub, 1) := by decide +kernel
theorem dX1_isNear_28 : decode cX1_isNear 28 = .ok (.istore 5, 2) := by decide +kernel
theorem dX1_isNear_30 : decode cX1_isNear 30 = .ok (.iconst 0, 1) := by decide +kernel
theorem dX1_isNear_31 : decode cX1_isNear 31 = .ok (.istore 6, 2) := by decide +kernel
theorem dX1_isNear_33 : decode cX1_isNear 33 = .ok (.iconst 0, 1) := by decide +kernel
theorem dX1_isNear_34 : decode cX1_isNear 34 = .ok (.istore 7, 2) := by decide +kernel
theorem dX1_isNear_36 : decode cX1_isNear 36 = .ok (.iload 7, 2) := by decide +kernel
theorem dX1_isNear_38 : decode cX1_isNear 38 = .ok (.iconst 3, 1) := by decide +kernel
theorem dX1_isNear_39 : decode cX1_isNear 39 = .ok (.if_icmp .ge 41, 3) := by decide +kernel
theorem dX1_isNear_42 : decode cX1_isNear 42 = .ok (.iload 7, 2) := by decide +kernel
theorem dX1_isNear_44 : decode cX1_isNear 44 = .ok (.iload_n 3, 1) := by decide +kernel
theorem dX1_isNear_45 : decode cX1_isNear 45 = .ok (.if_icmp .eq 29, 3) := by decide +kernel
theorem dX1_isNear_48 : decode cX1_isNear 48 = .ok (.iconst 0, 1) := by decide +kernel
theorem dX1_isNear_49 : decode cX1_isNear 49 = .ok (.aload_n 0, 1) := by decide +kernel
theorem dX1_isNear_50 : decode cX1_isNear 50 = .ok (.aload_n 2, 1) := by decide +kernel
theorem dX1_isNear_51 : decode cX1_isNear 51 = .ok (.iload 7, 2) := by decide +kernel
theorem dX1_isNear_53 : decode cX1_isNear 53 = .ok (.invokestatic 179, 3) := by decide +kernel
theorem dX1_isNear_56 : decode cX1_isNear 56 = .ok (.iload 4, 2) := by decide +kernel
theorem dX1_isNear_58 : decode cX1_isNear 58 = .ok (.isub, 1) := by decide +kernel
theorem dX1_isNear_59 : decode cX1_isNear 59 = .ok (.invokestatic 112, 3) := by decide +kernel
theorem dX1_isNear_62 : decode cX1_isNear 62 = .ok (.istore 8, 2) := by decide +kernel
theorem dX1_isNear_64 : decode cX1_isNear 64 = .ok (.iload 6, 2) := by decide +kernel
theorem dX1_isNear_66 : decode cX1_isNear 66 = .ok (.iload 8, 2) := by decide +kernel
theorem dX1_isNear_68 : decode cX1_isNear 68 = .ok (.iload 8, 2) := by decide +kernel
theorem dX1_isNear_70 : decode cX1_isNear 70 = .ok (.imul, 1) := by decide +kernel
theorem dX1_isNear_71 : decode cX1_isNear 71 = .ok (.iadd, 1) := by decide +kernel
theorem dX1_isNear_72 : decode cX1_isNear 72 = .ok (.istore 6, 2) := by decide +kernel
theorem dX1_isNear_74 : decode cX1_isNear 74 = .ok (.iinc 7 1, 3) := by decide +kernel
theorem dX1_isNear_77 : decode cX1_isNear 77 = .ok (.goto (-41), 3) := by decide +kernel
theorem dX1_isNear_80 : decode cX1_isNear 80 = .ok (.iload 6, 2) := by decide +kernel
theorem dX1_isNear_82 : decode cX1_isNear 82 = .ok (.iload 5, 2) := by decide +kernel
theorem dX1_isNear_84 : decode cX1_isNear 84 = .ok (.iload 5, 2) := by decide +kernel
theorem dX1_isNear_86 : decode cX1_isNear 86 = .ok (.imul, 1) := by decide +kernel
theorem dX1_isNear_87 : decode cX1_isNear 87 = .ok (.if_icmp .ge 7, 3) := by decide +kernel
theorem dX1_isNear_90 : decode cX1_isNear 90 = .ok (.iconst 1, 1) := by decide +kernel
theorem dX1_isNear_91 : decode cX1_isNear 91 = .ok (.goto 4, 3) := by decide +kernel
theorem dX1_isNear_94 : decode cX1_isNear 94 = .ok (.iconst 0, 1) := by decide +kernel
theorem dX1_isNear_95 : decode cX1_isNear 95 = .ok (.ireturn, 1) := by decide +kernel
theorem dX1_coreGap_0 : decode cX1_coreGap 0 = .ok (.aload_n 1, 1) := by decide +kernel
theorem dX1_coreGap_1 : decode cX1_coreGap 1 = .ok (.getfield 84, 3) := by decide +kernel
theorem dX1_coreGap_4 : decode cX1_coreGap 4 = .ok (.iload_n 2, 1) := by decide +kernel
theorem dX1_coreGap_5 : decode cX1_coreGap 5 = .ok (.iaload, 1) := by decide +kernel
theorem dX1_coreGap_6 : decode cX1_coreGap 6 = .ok (.aload_n 0, 1) := by decide +kernel
theorem dX1_coreGap_7 : decode cX1_coreGap 7 = .ok (.getfield 87, 3) := by decide +kernel
theorem dX1_coreGap_10 : decode cX1_coreGap 10 = .ok (.iload_n 2, 1) := by decide +kernel
theorem dX1_coreGap_11 : decode cX1_coreGap 11 = .ok (.iaload, 1) := by decide +kernel
theorem dX1_coreGap_12 : decode cX1_coreGap 12 = .ok (.isub, 1) := by decide +kernel
theorem dX1_coreGap_13 : decode cX1_coreGap 13 = .ok (.istore_n 3, 1) := by decide +kernel
theorem dX1_coreGap_14 : decode cX1_coreGap 14 = .ok (.aload_n 0, 1) := by decide +kernel
theorem dX1_coreGap_15 : decode cX1_coreGap 15 = .ok (.getfield 84, 3) := by decide +kernel
theorem dX1_coreGap_18 : decode cX1_coreGap 18 = .ok (.iload_n 2, 1) := by decide +kernel
theorem dX1_coreGap_19 : decode cX1_coreGap 19 = .ok (.iaload, 1) := by decide +kernel
theorem dX1_coreGap_20 : decode cX1_coreGap 20 = .ok (.aload_n 1, 1) := by decide +kernel
theorem dX1_coreGap_21 : decode cX1_coreGap 21 = .ok (.getfield 87, 3) := by decide +kernel
theorem dX1_coreGap_24 : decode cX1_coreGap 24 = .ok (.iload_n 2, 1) := by decide +kernel
theorem dX1_coreGap_25 : decode cX1_coreGap 25 = .ok (.iaload, 1) := by decide +kernel
theorem dX1_coreGap_26 : decode cX1_coreGap 26 = .ok (.isub, 1) := by decide +kernel
theorem dX1_coreGap_27 : decode cX1_coreGap 27 = .ok (.istore 4, 2) := by decide +kernel
theorem dX1_coreGap_29 : decode cX1_coreGap 29 = .ok (.iconst 0, 1) := by decide +kernel
theorem dX1_coreGap_30 : decode cX1_coreGap 30 = .ok (.iload_n 3, 1) := by decide +kernel
theorem dX1_coreGap_31 : decode cX1_coreGap 31 = .ok (.iload 4, 2) := by decide +kernel
theorem dX1_coreGap_33 : decode cX1_coreGap 33 = .ok (.invokestatic 112, 3) := by decide +kernel
theorem dX1_coreGap_36 : decode cX1_coreGap 36 = .ok (.invokestatic 112, 3) := by decide +kernel
theorem dX1_coreGap_39 : decode cX1_coreGap 39 = .ok (.ireturn, 1) := by decide +kernel
set_option maxRecDepth 20000 in
theorem ggX1_isPair_X1_stateOf : GoodIn wsX1_isPair wsX1_stateOf := goodIn_r _ [6, 7, 8, 9, 10, 11, 5, 12, 13, 14, 15, 16, 17, 18, 19, 20, 21, 22, 23, 24, 25, 26, 27, 28, 29, 30, 31, 32, 33, 34, 35, 36, 37, 38, 39, 40, 41, 42, 43, 44, 45, 46, 47, 48, 49, 50, 51, 52, 53, 62, 63, 64, 65, 66, 67, 54, 55, 56, 57, 58, 59, 60, 61] (by decide +kernel) (by decide +kernel)
set_option maxRecDepth 20000 in
theorem gX1_isPair_X1_stateOf : GoodIn wsX1_isPair (wsV RX1 93 RX1 yX1_stateOf wsX1_stateOf) := goodIn_app (goodIn_of _ (by decide +kernel)) ggX1_isPair_X1_stateOf
theorem dX1_isPair_0 : decode cX1_isPair 0 = .ok (.aload_n 0, 1) := by decide +kernel
theorem dX1_isPair_1 : decode cX1_isPair 1 = .ok (.getfield 11, 3) := by decide +kernel
theorem dX1_isPair_4 : decode cX1_isPair 4 = .ok (.iload_n 2, 1) := by decide +kernel
theorem dX1_isPair_5 : decode cX1_isPair 5 = .ok (.aaload, 1) := by decide +kernel
theorem dX1_isPair_6 : decode cX1_isPair 6 = .ok (.astore 4, 2) := by decide +kernel
theorem dX1_isPair_8 : decode cX1_isPair 8 = .ok (.aload_n 0, 1) := by decide +kernel
theorem dX1_isPair_9 : decode cX1_isPair 9 = .ok (.getfield 11, 3) := by decide +kernel
theorem dX1_isPair_12 : decode cX1_isPair 12 = .ok (.iload_n 3, 1) := by decide +kernel
theorem dX1_isPair_13 : decode cX1_isPair 13 = .ok (.aaload, 1) := by decide +kernel
theorem dX1_isPair_14 : decode cX1_isPair 14 = .ok (.astore 5, 2) := by decide +kernel
theorem dX1_isPair_16 : decode cX1_isPair 16 = .ok (.aload 4, 2) := by decide +kernel
theorem dX1_isPair_18 : decode cX1_isPair 18 = .ok (.ifnull 24, 3) := by decide +kernel
theorem dX1_isPair_21 : decode cX1_isPair 21 = .ok (.aload 5, 2) := by decide +kernel
theorem dX1_isPair_23 : decode cX1_isPair 23 = .ok (.ifnull 19, 3) := by decide +kernel
theorem dX1_isPair_26 : decode cX1_isPair 26 = .ok (.aload_n 0, 1) := by decide +kernel
theorem dX1_isPair_27 : decode cX1_isPair 27 = .ok (.aload 4, 2) := by decide +kernel
theorem dX1_isPair_29 : decode cX1_isPair 29 = .ok (.aload 5, 2) := by decide +kernel
theorem dX1_isPair_31 : decode cX1_isPair 31 = .ok (.invokevirtual 93, 3) := by decide +kernel
theorem dX1_isPair_34 : decode cX1_isPair 34 = .ok (.iload_n 1, 1) := by decide +kernel
theorem dX1_isPair_35 : decode cX1_isPair 35 = .ok (.if_icmp .ne 7, 3) := by decide +kernel
theorem dX1_isPair_38 : decode cX1_isPair 38 = .ok (.iconst 1, 1) := by decide +kernel
theorem dX1_isPair_39 : decode cX1_isPair 39 = .ok (.goto 4, 3) := by decide +kernel
theorem dX1_isPair_42 : decode cX1_isPair 42 = .ok (.iconst 0, 1) := by decide +kernel
theorem dX1_isPair_43 : decode cX1_isPair 43 = .ok (.ireturn, 1) := by decide +kernel
set_option maxRecDepth 20000 in
theorem ggX1_countPartners_X1_isPair : GoodIn wsX1_countPartners wsX1_isPair := goodIn_r _ [6, 7, 8, 9, 10, 5, 11, 12, 13, 14, 15, 16, 17, 18, 19, 20, 21, 22, 23, 24, 25, 26, 27, 28, 29, 30, 31, 32, 33, 34, 35, 36, 37, 38, 39, 40, 41, 42, 43, 44, 45, 46, 47, 48, 49, 50, 51, 52, 53, 54, 55, 56, 57, 58, 59, 60, 61, 62, 63, 64, 65, 66, 67, 68, 69, 70, 71, 72] (by decide +kernel) (by decide +kernel)
set_option maxRecDepth 20000 in
theorem gX1_countPartners_X1_isPair : GoodIn wsX1_countPartners (wsV RX1 183 RX1 yX1_isPair wsX1_isPair) := goodIn_app (goodIn_of _ (by decide +kernel)) ggX1_countPartners_X1_isPair
theorem dX1_countPartners_0 : decode cX1_countPartners 0 = .ok (.iconst 0, 1) := by decide +kernel
theorem dX1_countPartners_1 : decode cX1_countPartners 1 = .ok (.istore_n 3, 1) := by decide +kernel
theorem dX1_countPartners_2 : decode cX1_countPartners 2 = .ok (.iload_n 2, 1) := by decide +kernel
theorem dX1_countPartners_3 : decode cX1_countPartners 3 = .ok (.iconst 1, 1) := by decide +kernel
theorem dX1_countPartners_4 : decode cX1_countPartners 4 = .ok (.iadd, 1) := by decide +kernel
theorem dX1_countPartners_5 : decode cX1_countPartners 5 = .ok (.istore 4, 2) := by decide +kernel
theorem dX1_countPartners_7 : decode cX1_countPartners 7 = .ok (.iload 4, 2) := by decide +kernel
theorem dX1_countPartners_9 : decode cX1_countPartners 9 = .ok (.aload_n 0, 1) := by decide +kernel
theorem dX1_countPartners_10 : decode cX1_countPartners 10 = .ok (.getfield 19, 3) := by decide +kernel
theorem dX1_countPartners_13 : decode cX1_countPartners 13 = .ok (.if_icmp .ge 23, 3) := by decide +kernel
theorem dX1_countPartners_16 : decode cX1_countPartners 16 = .ok (.aload_n 0, 1) := by decide +kernel
theorem dX1_countPartners_17 : decode cX1_countPartners 17 = .ok (.iload_n 1, 1) := by decide +kernel
theorem dX1_countPartners_18 : decode cX1_countPartners 18 = .ok (.iload_n 2, 1) := by decide +kernel
theorem dX1_countPartners_19 : decode cX1_countPartners 19 = .ok (.iload 4, 2) := by decide +kernel
theorem dX1_countPartners_21 : decode cX1_countPartners 21 = .ok (.invokevirtual 183, 3) := by decide +kernel
theorem dX1_countPartners_24 : decode cX1_countPartners 24 = .ok (.ifCond .eq 6, 3) := by decide +kernel
theorem dX1_countPartners_27 : decode cX1_countPartners 27 = .ok (.iinc 3 1, 3) := by decide +kernel
theorem dX1_countPartners_30 : decode cX1_countPartners 30 = .ok (.iinc 4 1, 3) := by decide +kernel
theorem dX1_countPartners_33 : decode cX1_countPartners 33 = .ok (.goto (-26), 3) := by decide +kernel
theorem dX1_countPartners_36 : decode cX1_countPartners 36 = .ok (.iload_n 3, 1) := by decide +kernel
theorem dX1_countPartners_37 : decode cX1_countPartners 37 = .ok (.ireturn, 1) := by decide +kernel
set_option maxRecDepth 20000 in
theorem ggX1_partnerAt_X1_isPair : GoodIn wsX1_partnerAt wsX1_isPair := goodIn_r _ [6, 7, 8, 9, 10, 5, 11, 12, 13, 14, 15, 16, 17, 18, 19, 20, 21, 22, 23, 24, 25, 26, 27, 28, 29, 30, 31, 32, 33, 34, 35, 36, 37, 38, 39, 40, 41, 42, 43, 44, 45, 46, 47, 48, 49, 50, 51, 52, 53, 54, 55, 56, 57, 58, 59, 60, 61, 62, 63, 64, 65, 66, 67, 68, 69, 70, 71, 72] (by decide +kernel) (by decide +kernel)
set_option maxRecDepth 20000 in
theorem gX1_partnerAt_X1_isPair : GoodIn wsX1_partnerAt (wsV RX1 183 RX1 yX1_isPair wsX1_isPair) := goodIn_app (goodIn_of _ (by decide +kernel)) ggX1_partnerAt_X1_isPair
theorem dX1_partnerAt_0 : decode cX1_partnerAt 0 = .ok (.iload_n 3, 1) := by decide +kernel
theorem dX1_partnerAt_1 : decode cX1_partnerAt 1 = .ok (.istore 4, 2) := by decide +kernel
theorem dX1_partnerAt_3 : decode cX1_partnerAt 3 = .ok (.iload_n 2, 1) := by decide +kernel
theorem dX1_partnerAt_4 : decode cX1_partnerAt 4 = .ok (.iconst 1, 1) := by decide +kernel
theorem dX1_partnerAt_5 : decode cX1_partnerAt 5 = .ok (.iadd, 1) := by decide +kernel
theorem dX1_partnerAt_6 : decode cX1_partnerAt 6 = .ok (.istore 5, 2) := by decide +kernel
theorem dX1_partnerAt_8 : decode cX1_partnerAt 8 = .ok (.iload 5, 2) := by decide +kernel
theorem dX1_partnerAt_10 : decode cX1_partnerAt 10 = .ok (.aload_n 0, 1) := by decide +kernel
theorem dX1_partnerAt_11 : decode cX1_partnerAt 11 = .ok (.getfield 19, 3) := by decide +kernel
theorem dX1_partnerAt_14 : decode cX1_partnerAt 14 = .ok (.if_icmp .ge 31, 3) := by decide +kernel
theorem dX1_partnerAt_17 : decode cX1_partnerAt 17 = .ok (.aload_n 0, 1) := by decide +kernel
theorem dX1_partnerAt_18 : decode cX1_partnerAt 18 = .ok (.iload_n 1, 1) := by decide +kernel
theorem dX1_partnerAt_19 : decode cX1_partnerAt 19 = .ok (.iload_n 2, 1) := by decide +kernel
theorem dX1_partnerAt_20 : decode cX1_partnerAt 20 = .ok (.iload 5, 2) := by decide +kernel
theorem dX1_partnerAt_22 : decode cX1_partnerAt 22 = .ok (.invokevirtual 183, 3) := by decide +kernel
theorem dX1_partnerAt_25 : decode cX1_partnerAt 25 = .ok (.ifCond .eq 14, 3) := by decide +kernel
theorem dX1_partnerAt_28 : decode cX1_partnerAt 28 = .ok (.iload 4, 2) := by decide +kernel
theorem dX1_partnerAt_30 : decode cX1_partnerAt 30 = .ok (.ifCond .ne 6, 3) := by decide +kernel
theorem dX1_partnerAt_33 : decode cX1_partnerAt 33 = .ok (.iload 5, 2) := by decide +kernel
theorem dX1_partnerAt_35 : decode cX1_partnerAt 35 = .ok (.ireturn, 1) := by decide +kernel
theorem dX1_partnerAt_36 : decode cX1_partnerAt 36 = .ok (.iinc 4 (-1), 3) := by decide +kernel
theorem dX1_partnerAt_39 : decode cX1_partnerAt 39 = .ok (.iinc 5 1, 3) := by decide +kernel
theorem dX1_partnerAt_42 : decode cX1_partnerAt 42 = .ok (.goto (-34), 3) := by decide +kernel
theorem dX1_partnerAt_45 : decode cX1_partnerAt 45 = .ok (.iconst (-1), 1) := by decide +kernel
theorem dX1_partnerAt_46 : decode cX1_partnerAt 46 = .ok (.ireturn, 1) := by decide +kernel
set_option maxRecDepth 20000 in
theorem ggX1_nameGroups_X1_isPair : GoodIn wsX1_nameGroups wsX1_isPair := goodIn_r _ [14, 15, 16, 17, 18, 13, 19, 20, 21, 22, 23, 24, 25, 26, 27, 28, 29, 30, 31, 32, 33, 34, 35, 36, 37, 38, 39, 40, 41, 42, 43, 44, 45, 46, 47, 48, 49, 50, 51, 52, 53, 54, 55, 56, 57, 7, 8, 5, 9, 58, 59, 60, 61, 62, 67, 68, 69, 70, 71, 72, 73, 74, 75, 76, 77, 78, 79, 80] (by decide +kernel) (by decide +kernel)
set_option maxRecDepth 20000 in
theorem gX1_nameGroups_X1_isPair : GoodIn wsX1_nameGroups (wsV RX1 183 RX1 yX1_isPair wsX1_isPair) := goodIn_app (goodIn_of _ (by decide +kernel)) ggX1_nameGroups_X1_isPair
set_option maxRecDepth 20000 in
theorem ggX1_nameGroups_X1_joinNames : GoodIn wsX1_nameGroups wsX1_joinNames := goodIn_r _ [66, 1, 2, 67, 68, 69, 70, 71, 72, 73, 74] (by decide +kernel) (by decide +kernel)
set_option maxRecDepth 20000 in
theorem gX1_nameGroups_X1_joinNames : GoodIn wsX1_nameGroups (wsV RX1 186 RX1 yX1_joinNames wsX1_joinNames) := goodIn_app (goodIn_of _ (by decide +kernel)) ggX1_nameGroups_X1_joinNames
theorem dX1_nameGroups_0 : decode cX1_nameGroups 0 = .ok (.iconst 0, 1) := by decide +kernel
theorem dX1_nameGroups_1 : decode cX1_nameGroups 1 = .ok (.istore_n 1, 1) := by decide +kernel
theorem dX1_nameGroups_2 : decode cX1_nameGroups 2 = .ok (.iload_n 1, 1) := by decide +kernel
theorem dX1_nameGroups_3 : decode cX1_nameGroups 3 = .ok (.aload_n 0, 1) := by decide +kernel
theorem dX1_nameGroups_4 : decode cX1_nameGroups 4 = .ok (.getfield 19, 3) := by decide +kernel
theorem dX1_nameGroups_7 : decode cX1_nameGroups 7 = .ok (.if_icmp .ge 16, 3) := by decide +kernel
theorem dX1_nameGroups_10 : decode cX1_nameGroups 10 = .ok (.aload_n 0, 1) := by decide +kernel
theorem dX1_nameGroups_11 : decode cX1_nameGroups 11 = .ok (.getfield 26, 3) := by decide +kernel
theorem dX1_nameGroups_14 : decode cX1_nameGroups 14 = .ok (.iload_n 1, 1) := by decide +kernel
theorem dX1_nameGroups_15 : decode cX1_nameGroups 15 = .ok (.iload_n 1, 1) := by decide +kernel
theorem dX1_nameGroups_16 : decode cX1_nameGroups 16 = .ok (.iastore, 1) := by decide +kernel
theorem dX1_nameGroups_17 : decode cX1_nameGroups 17 = .ok (.iinc 1 1, 3) := by decide +kernel
theorem dX1_nameGroups_20 : decode cX1_nameGroups 20 = .ok (.goto (-18), 3) := by decide +kernel
theorem dX1_nameGroups_23 : decode cX1_nameGroups 23 = .ok (.iconst 0, 1) := by decide +kernel
theorem dX1_nameGroups_24 : decode cX1_nameGroups 24 = .ok (.istore_n 1, 1) := by decide +kernel
theorem dX1_nameGroups_25 : decode cX1_nameGroups 25 = .ok (.iload_n 1, 1) := by decide +kernel
theorem dX1_nameGroups_26 : decode cX1_nameGroups 26 = .ok (.aload_n 0, 1) := by decide +kernel
theorem dX1_nameGroups_27 : decode cX1_nameGroups 27 = .ok (.getfield 19, 3) := by decide +kernel
theorem dX1_nameGroups_30 : decode cX1_nameGroups 30 = .ok (.if_icmp .ge 86, 3) := by decide +kernel
theorem dX1_nameGroups_33 : decode cX1_nameGroups 33 = .ok (.iload_n 1, 1) := by decide +kernel
theorem dX1_nameGroups_34 : decode cX1_nameGroups 34 = .ok (.iconst 1, 1) := by decide +kernel
theorem dX1_nameGroups_35 : decode cX1_nameGroups 35 = .ok (.iadd, 1) := by decide +kernel
theorem dX1_nameGroups_36 : decode cX1_nameGroups 36 = .ok (.istore_n 2, 1) := by decide +kernel
theorem dX1_nameGroups_37 : decode cX1_nameGroups 37 = .ok (.iload_n 2, 1) := by decide +kernel
theorem dX1_nameGroups_38 : decode cX1_nameGroups 38 = .ok (.aload_n 0, 1) := by decide +kernel
theorem dX1_nameGroups_39 : decode cX1_nameGroups 39 = .ok (.getfield 19, 3) := by decide +kernel
theorem dX1_nameGroups_42 : decode cX1_nameGroups 42 = .ok (.if_icmp .ge 68, 3) := by decide +kernel
theorem dX1_nameGroups_45 : decode cX1_nameGroups 45 = .ok (.aload_n 0, 1) := by decide +kernel
theorem dX1_nameGroups_46 : decode cX1_nameGroups 46 = .ok (.getfield 26, 3) := by decide +kernel
theorem dX1_nameGroups_49 : decode cX1_nameGroups 49 = .ok (.iload_n 1, 1) := by decide +kernel
theorem dX1_nameGroups_50 : decode cX1_nameGroups 50 = .ok (.iaload, 1) := by decide +kernel
theorem dX1_nameGroups_51 : decode cX1_nameGroups 51 = .ok (.aload_n 0, 1) := by decide +kernel
theorem dX1_nameGroups_52 : decode cX1_nameGroups 52 = .ok (.getfield 26, 3) := by decide +kernel
theorem dX1_nameGroups_55 : decode cX1_nameGroups 55 = .ok (.iload_n 2, 1) := by decide +kernel
theorem dX1_nameGroups_56 : decode cX1_nameGroups 56 = .ok (.iaload, 1) := by decide +kernel
theorem dX1_nameGroups_57 : decode cX1_nameGroups 57 = .ok (.if_icmp .eq 47, 3) := by decide +kernel
theorem dX1_nameGroups_60 : decode cX1_nameGroups 60 = .ok (.aload_n 0, 1) := by decide +kernel
theorem dX1_nameGroups_61 : decode cX1_nameGroups 61 = .ok (.iconst 2, 1) := by decide +kernel
theorem dX1_nameGroups_62 : decode cX1_nameGroups 62 = .ok (.iload_n 1, 1) := by decide +kernel
theorem dX1_nameGroups_63 : decode cX1_nameGroups 63 = .ok (.iload_n 2, 1) := by decide +kernel
theorem dX1_nameGroups_64 : decode cX1_nameGroups 64 = .ok (.invokevirtual 183, 3) := by decide +kernel
theorem dX1_nameGroups_67 : decode cX1_nameGroups 67 = .ok (.ifCond .eq 37, 3) := by decide +kernel
theorem dX1_nameGroups_70 : decode cX1_nameGroups 70 = .ok (.aload_n 0, 1) := by decide +kernel
theorem dX1_nameGroups_71 : decode cX1_nameGroups 71 = .ok (.aload_n 0, 1) := by decide +kernel
theorem dX1_nameGroups_72 : decode cX1_nameGroups 72 = .ok (.getfield 26, 3) := by decide +kernel
theorem dX1_nameGroups_75 : decode cX1_nameGroups 75 = .ok (.iload_n 1, 1) := by decide +kernel
theorem dX1_nameGroups_76 : decode cX1_nameGroups 76 = .ok (.iaload, 1) := by decide +kernel
theorem dX1_nameGroups_77 : decode cX1_nameGroups 77 = .ok (.aload_n 0, 1) := by decide +kernel
theorem dX1_nameGroups_78 : decode cX1_nameGroups 78 = .ok (.getfield 26, 3) := by decide +kernel
theorem dX1_nameGroups_81 : decode cX1_nameGroups 81 = .ok (.iload_n 2, 1) := by decide +kernel
theorem dX1_nameGroups_82 : decode cX1_nameGroups 82 = .ok (.iaload, 1) := by decide +kernel
theorem dX1_nameGroups_83 : decode cX1_nameGroups 83 = .ok (.invokestatic 120, 3) := by decide +kernel
theorem dX1_nameGroups_86 : decode cX1_nameGroups 86 = .ok (.aload_n 0, 1) := by decide +kernel
theorem dX1_nameGroups_87 : decode cX1_nameGroups 87 = .ok (.getfield 26, 3) := by decide +kernel
theorem dX1_nameGroups_90 : decode cX1_nameGroups 90 = .ok (.iload_n 1, 1) := by decide +kernel
theorem dX1_nameGroups_91 : decode cX1_nameGroups 91 = .ok (.iaload, 1) := by decide +kernel
theorem dX1_nameGroups_92 : decode cX1_nameGroups 92 = .ok (.aload_n 0, 1) := by decide +kernel
theorem dX1_nameGroups_93 : decode cX1_nameGroups 93 = .ok (.getfield 26, 3) := by decide +kernel
theorem dX1_nameGroups_96 : decode cX1_nameGroups 96 = .ok (.iload_n 2, 1) := by decide +kernel
theorem dX1_nameGroups_97 : decode cX1_nameGroups 97 = .ok (.iaload, 1) := by decide +kernel
theorem dX1_nameGroups_98 : decode cX1_nameGroups 98 = .ok (.invokestatic 112, 3) := by decide +kernel
theorem dX1_nameGroups_101 : decode cX1_nameGroups 101 = .ok (.invokevirtual 186, 3) := by decide +kernel
theorem dX1_nameGroups_104 : decode cX1_nameGroups 104 = .ok (.iinc 2 1, 3) := by decide +kernel
theorem dX1_nameGroups_107 : decode cX1_nameGroups 107 = .ok (.goto (-70), 3) := by decide +kernel
theorem dX1_nameGroups_110 : decode cX1_nameGroups 110 = .ok (.iinc 1 1, 3) := by decide +kernel
theorem dX1_nameGroups_113 : decode cX1_nameGroups 113 = .ok (.goto (-88), 3) := by decide +kernel
theorem dX1_nameGroups_116 : decode cX1_nameGroups 116 = .ok (.return_, 1) := by decide +kernel
theorem dX1_joinNames_0 : decode cX1_joinNames 0 = .ok (.iconst 0, 1) := by decide +kernel
theorem dX1_joinNames_1 : decode cX1_joinNames 1 = .ok (.istore_n 3, 1) := by decide +kernel
theorem dX1_joinNames_2 : decode cX1_joinNames 2 = .ok (.iload_n 3, 1) := by decide +kernel
theorem dX1_joinNames_3 : decode cX1_joinNames 3 = .ok (.aload_n 0, 1) := by decide +kernel
theorem dX1_joinNames_4 : decode cX1_joinNames 4 = .ok (.getfield 19, 3) := by decide +kernel
theorem dX1_joinNames_7 : decode cX1_joinNames 7 = .ok (.if_icmp .ge 26, 3) := by decide +kernel
theorem dX1_joinNames_10 : decode cX1_joinNames 10 = .ok (.aload_n 0, 1) := by decide +kernel
theorem dX1_joinNames_11 : decode cX1_joinNames 11 = .ok (.getfield 26, 3) := by decide +kernel
theorem dX1_joinNames_14 : decode cX1_joinNames 14 = .ok (.iload_n 3, 1) := by decide +kernel
theorem dX1_joinNames_15 : decode cX1_joinNames 15 = .ok (.iaload, 1) := by decide +kernel
theorem dX1_joinNames_16 : decode cX1_joinNames 16 = .ok (.iload_n 2, 1) := by decide +kernel
theorem dX1_joinNames_17 : decode cX1_joinNames 17 = .ok (.if_icmp .ne 10, 3) := by decide +kernel
theorem dX1_joinNames_20 : decode cX1_joinNames 20 = .ok (.aload_n 0, 1) := by decide +kernel
theorem dX1_joinNames_21 : decode cX1_joinNames 21 = .ok (.getfield 26, 3) := by decide +kernel
theorem dX1_joinNames_24 : decode cX1_joinNames 24 = .ok (.iload_n 3, 1) := by decide +kernel
theorem dX1_joinNames_25 : decode cX1_joinNames 25 = .ok (.iload_n 1, 1) := by decide +kernel
theorem dX1_joinNames_26 : decode cX1_joinNames 26 = .ok (.iastore, 1) := by decide +kernel
theorem dX1_joinNames_27 : decode cX1_joinNames 27 = .ok (.iinc 3 1, 3) := by decide +kernel
theorem dX1_joinNames_30 : decode cX1_joinNames 30 = .ok (.goto (-28), 3) := by decide +kernel
theorem dX1_joinNames_33 : decode cX1_joinNames 33 = .ok (.return_, 1) := by decide +kernel
set_option maxRecDepth 20000 in
theorem ggX1_cuts_X0_hullLeast : GoodIn wsX1_cuts wsX0_hullLeast := goodIn_r _ [5, 6, 7, 8, 14, 15, 16, 17, 18, 19] (by decide +kernel) (by decide +kernel)
set_option maxRecDepth 20000 in
theorem gX1_cuts_X0_hullLeast : GoodIn wsX1_cuts (wsV RX1 108 RX0 yX0_hullLeast wsX0_hullLeast) := goodIn_app (goodIn_of _ (by decide +kernel)) ggX1_cuts_X0_hullLeast
set_option maxRecDepth 20000 in
theorem ggX1_cuts_X0_hullGreatest : GoodIn wsX1_cuts wsX0_hullGreatest := goodIn_r _ [12, 6, 13, 8, 14, 15, 16, 17, 18, 19] (by decide +kernel) (by decide +kernel)
set_option maxRecDepth 20000 in
theorem gX1_cuts_X0_hullGreatest : GoodIn wsX1_cuts (wsV RX1 117 RX0 yX0_hullGreatest wsX0_hullGreatest) := goodIn_app (goodIn_of _ (by decide +kernel)) ggX1_cuts_X0_hullGreatest
theorem dX1_cuts_0 : decode cX1_cuts 0 = .ok (.aload_n 0, 1) := by decide +kernel
theorem dX1_cuts_1 : decode cX1_cuts 1 = .ok (.iload_n 1, 1) := by decide +kernel
theorem dX1_cuts_2 : decode cX1_cuts 2 = .ok (.invokevirtual 108, 3) := by decide +kernel
theorem dX1_cuts_5 : decode cX1_cuts 5 = .ok (.iload_n 3, 1) := by decide +kernel
theorem dX1_cuts_6 : decode cX1_cuts 6 = .ok (.if_icmp .ge 16, 3) := by decide +kernel
theorem dX1_cuts_9 : decode cX1_cuts 9 = .ok (.iload_n 2, 1) := by decide +kernel
theorem dX1_cuts_10 : decode cX1_cuts 10 = .ok (.aload_n 0, 1) := by decide +kernel
theorem dX1_cuts_11 : decode cX1_cuts 11 = .ok (.iload_n 1, 1) := by decide +kernel
theorem dX1_cuts_12 : decode cX1_cuts 12 = .ok (.invokevirtual 117, 3) := by decide +kernel
theorem dX1_cuts_15 : decode cX1_cuts 15 = .ok (.if_icmp .ge 7, 3) := by decide +kernel
theorem dX1_cuts_18 : decode cX1_cuts 18 = .ok (.iconst 1, 1) := by decide +kernel
theorem dX1_cuts_19 : decode cX1_cuts 19 = .ok (.goto 4, 3) := by decide +kernel
theorem dX1_cuts_22 : decode cX1_cuts 22 = .ok (.iconst 0, 1) := by decide +kernel
theorem dX1_cuts_23 : decode cX1_cuts 23 = .ok (.ireturn, 1) := by decide +kernel
set_option maxRecDepth 20000 in
theorem ggX1_findBlocks_X1_areFree : GoodIn wsX1_findBlocks wsX1_areFree := goodIn_r _ [8, 9, 62, 63, 64, 65, 66, 67, 68, 69] (by decide +kernel) (by decide +kernel)
set_option maxRecDepth 20000 in
theorem gX1_findBlocks_X1_areFree : GoodIn wsX1_findBlocks (wsV RX1 78 RX1 yX1_areFree wsX1_areFree) := goodIn_app (goodIn_of _ (by decide +kernel)) ggX1_findBlocks_X1_areFree
set_option maxRecDepth 20000 in
theorem ggX1_findBlocks_X1_noteBlock : GoodIn wsX1_findBlocks wsX1_noteBlock := goodIn_r _ [13, 14, 15, 16, 17, 18, 19, 7, 20, 21, 22, 23, 24, 25, 26, 27, 28, 29, 30, 31, 32, 33, 34, 35, 36, 37, 38, 39, 40, 41, 42, 43, 44, 45, 46, 47, 48, 49, 50, 51, 52, 53, 54, 55, 56, 57, 58, 59, 60, 61, 62, 63, 64, 65, 66, 67, 68, 69, 70, 71, 72, 73, 74, 75] (by decide +kernel) (by decide +kernel)
set_option maxRecDepth 20000 in
theorem gX1_findBlocks_X1_noteBlock : GoodIn wsX1_findBlocks (wsV RX1 190 RX1 yX1_noteBlock wsX1_noteBlock) := goodIn_app (goodIn_of _ (by decide +kernel)) ggX1_findBlocks_X1_noteBlock
theorem dX1_findBlocks_0 : decode cX1_findBlocks 0 = .ok (.iconst 0, 1) := by decide +kernel
theorem dX1_findBlocks_1 : decode cX1_findBlocks 1 = .ok (.istore 4, 2) := by decide +kernel
theorem dX1_findBlocks_3 : decode cX1_findBlocks 3 = .ok (.iconst 0, 1) := by decide +kernel
theorem dX1_findBlocks_4 : decode cX1_findBlocks 4 = .ok (.istore 5, 2) := by decide +kernel
theorem dX1_findBlocks_6 : decode cX1_findBlocks 6 = .ok (.iload 5, 2) := by decide +kernel
theorem dX1_findBlocks_8 : decode cX1_findBlocks 8 = .ok (.aload_n 0, 1) := by decide +kernel
theorem dX1_findBlocks_9 : decode cX1_findBlocks 9 = .ok (.getfield 19, 3) := by decide +kernel
theorem dX1_findBlocks_12 : decode cX1_findBlocks 12 = .ok (.if_icmp .ge 61, 3) := by decide +kernel
theorem dX1_findBlocks_15 : decode cX1_findBlocks 15 = .ok (.aload_n 0, 1) := by decide +kernel
theorem dX1_findBlocks_16 : decode cX1_findBlocks 16 = .ok (.getfield 11, 3) := by decide +kernel
theorem dX1_findBlocks_19 : decode cX1_findBlocks 19 = .ok (.iload 5, 2) := by decide +kernel
theorem dX1_findBlocks_21 : decode cX1_findBlocks 21 = .ok (.aaload, 1) := by decide +kernel
theorem dX1_findBlocks_22 : decode cX1_findBlocks 22 = .ok (.astore 6, 2) := by decide +kernel
theorem dX1_findBlocks_24 : decode cX1_findBlocks 24 = .ok (.aload 6, 2) := by decide +kernel
theorem dX1_findBlocks_26 : decode cX1_findBlocks 26 = .ok (.ifnull 41, 3) := by decide +kernel
theorem dX1_findBlocks_29 : decode cX1_findBlocks 29 = .ok (.iload 5, 2) := by decide +kernel
theorem dX1_findBlocks_31 : decode cX1_findBlocks 31 = .ok (.iload_n 2, 1) := by decide +kernel
theorem dX1_findBlocks_32 : decode cX1_findBlocks 32 = .ok (.if_icmp .eq 35, 3) := by decide +kernel
theorem dX1_findBlocks_35 : decode cX1_findBlocks 35 = .ok (.aload_n 0, 1) := by decide +kernel
theorem dX1_findBlocks_36 : decode cX1_findBlocks 36 = .ok (.aload_n 1, 1) := by decide +kernel
theorem dX1_findBlocks_37 : decode cX1_findBlocks 37 = .ok (.getfield 152, 3) := by decide +kernel
theorem dX1_findBlocks_40 : decode cX1_findBlocks 40 = .ok (.aload 6, 2) := by decide +kernel
theorem dX1_findBlocks_42 : decode cX1_findBlocks 42 = .ok (.getfield 152, 3) := by decide +kernel
theorem dX1_findBlocks_45 : decode cX1_findBlocks 45 = .ok (.invokevirtual 78, 3) := by decide +kernel
theorem dX1_findBlocks_48 : decode cX1_findBlocks 48 = .ok (.ifCond .ne 19, 3) := by decide +kernel
theorem dX1_findBlocks_51 : decode cX1_findBlocks 51 = .ok (.aload_n 0, 1) := by decide +kernel
theorem dX1_findBlocks_52 : decode cX1_findBlocks 52 = .ok (.aload_n 1, 1) := by decide +kernel
theorem dX1_findBlocks_53 : decode cX1_findBlocks 53 = .ok (.aload 6, 2) := by decide +kernel
theorem dX1_findBlocks_55 : decode cX1_findBlocks 55 = .ok (.iload_n 3, 1) := by decide +kernel
theorem dX1_findBlocks_56 : decode cX1_findBlocks 56 = .ok (.iload 4, 2) := by decide +kernel
theorem dX1_findBlocks_58 : decode cX1_findBlocks 58 = .ok (.invokevirtual 190, 3) := by decide +kernel
theorem dX1_findBlocks_61 : decode cX1_findBlocks 61 = .ok (.ifCond .eq 6, 3) := by decide +kernel
theorem dX1_findBlocks_64 : decode cX1_findBlocks 64 = .ok (.iinc 4 1, 3) := by decide +kernel
theorem dX1_findBlocks_67 : decode cX1_findBlocks 67 = .ok (.iinc 5 1, 3) := by decide +kernel
theorem dX1_findBlocks_70 : decode cX1_findBlocks 70 = .ok (.goto (-64), 3) := by decide +kernel
theorem dX1_findBlocks_73 : decode cX1_findBlocks 73 = .ok (.iload 4, 2) := by decide +kernel
theorem dX1_findBlocks_75 : decode cX1_findBlocks 75 = .ok (.ireturn, 1) := by decide +kernel
set_option maxRecDepth 20000 in
theorem ggX1_noteBlock_X1_roundAxis : GoodIn wsX1_noteBlock wsX1_roundAxis := goodIn_r _ [8, 9, 10, 11, 12, 13, 14, 15, 58, 59, 60, 61, 62, 63] (by decide +kernel) (by decide +kernel)
set_option maxRecDepth 20000 in
theorem gX1_noteBlock_X1_roundAxis : GoodIn wsX1_noteBlock (va_wsS RX1 159 yX1_roundAxis wsX1_roundAxis) := goodIn_app (goodIn_of _ (by decide +kernel)) ggX1_noteBlock_X1_roundAxis
set_option maxRecDepth 20000 in
theorem ggX1_noteBlock_X0_hullLeast : GoodIn wsX1_noteBlock wsX0_hullLeast := goodIn_r _ [19, 15, 20, 21, 58, 59, 60, 61, 62, 63] (by decide +kernel) (by decide +kernel)
set_option maxRecDepth 20000 in
theorem gX1_noteBlock_X0_hullLeast : GoodIn wsX1_noteBlock (wsV RX1 108 RX0 yX0_hullLeast wsX0_hullLeast) := goodIn_app (goodIn_of _ (by decide +kernel)) ggX1_noteBlock_X0_hullLeast
set_option maxRecDepth 20000 in
theorem ggX1_noteBlock_X0_hullGreatest : GoodIn wsX1_noteBlock wsX0_hullGreatest := goodIn_r _ [25, 15, 26, 21, 58, 59, 60, 61, 62, 63] (by decide +kernel) (by decide +kernel)
set_option maxRecDepth 20000 in
theorem gX1_noteBlock_X0_hullGreatest : GoodIn wsX1_noteBlock (wsV RX1 117 RX0 yX0_hullGreatest wsX0_hullGreatest) := goodIn_app (goodIn_of _ (by decide +kernel)) ggX1_noteBlock_X0_hullGreatest
set_option maxRecDepth 20000 in
theorem ggX1_noteBlock_X1_overlapAcross : GoodIn wsX1_noteBlock wsX1_overlapAcross := goodIn_r _ [29, 30, 31, 7, 32, 16, 17, 18, 13, 19, 15, 20, 21, 22, 23, 24, 25, 26, 58, 59, 60, 61, 62, 63] (by decide +kernel) (by decide +kernel)
set_option maxRecDepth 20000 in
theorem gX1_noteBlock_X1_overlapAcross : GoodIn wsX1_noteBlock (va_wsS RX1 194 yX1_overlapAcross wsX1_overlapAcross) := goodIn_app (goodIn_of _ (by decide +kernel)) ggX1_noteBlock_X1_overlapAcross
set_option maxRecDepth 20000 in
theorem ggX1_noteBlock_X1_isNear : GoodIn wsX1_noteBlock wsX1_isNear := goodIn_r _ [35, 36, 37, 38, 39, 40, 10, 11, 12, 13, 14, 15, 41, 42, 7, 43, 3, 4, 58, 59, 60, 61, 62, 63] (by decide +kernel) (by decide +kernel)
set_option maxRecDepth 20000 in
theorem gX1_noteBlock_X1_isNear : GoodIn wsX1_noteBlock (va_wsS RX1 166 yX1_isNear wsX1_isNear) := goodIn_app (goodIn_of _ (by decide +kernel)) ggX1_noteBlock_X1_isNear
set_option maxRecDepth 20000 in
theorem ggX1_noteBlock_X1_thirdAxis : GoodIn wsX1_noteBlock wsX1_thirdAxis := goodIn_r _ [46] (by decide +kernel) (by decide +kernel)
set_option maxRecDepth 20000 in
theorem gX1_noteBlock_X1_thirdAxis : GoodIn wsX1_noteBlock (va_wsS RX1 198 yX1_thirdAxis wsX1_thirdAxis) := goodIn_app (goodIn_of _ (by decide +kernel)) ggX1_noteBlock_X1_thirdAxis
set_option maxRecDepth 20000 in
theorem ggX1_noteBlock_X1_roundWidth : GoodIn wsX1_noteBlock wsX1_roundWidth := goodIn_r _ [49, 36, 41, 42, 7, 43, 3, 4, 37, 38, 39, 40, 58, 59, 60, 61, 62, 63] (by decide +kernel) (by decide +kernel)
set_option maxRecDepth 20000 in
theorem gX1_noteBlock_X1_roundWidth : GoodIn wsX1_noteBlock (va_wsS RX1 201 yX1_roundWidth wsX1_roundWidth) := goodIn_app (goodIn_of _ (by decide +kernel)) ggX1_noteBlock_X1_roundWidth
set_option maxRecDepth 20000 in
theorem ggX1_noteBlock_X1_overlap : GoodIn wsX1_noteBlock wsX1_overlap := goodIn_r _ [32, 16, 17, 18, 13, 19, 15, 20, 21, 22, 23, 24, 25, 26, 58, 59, 60, 61, 62, 63] (by decide +kernel) (by decide +kernel)
set_option maxRecDepth 20000 in
theorem gX1_noteBlock_X1_overlap : GoodIn wsX1_noteBlock (va_wsS RX1 162 yX1_overlap wsX1_overlap) := goodIn_app (goodIn_of _ (by decide +kernel)) ggX1_noteBlock_X1_overlap
theorem dX1_noteBlock_0 : decode cX1_noteBlock 0 = .ok (.aload_n 1, 1) := by decide +kernel
theorem dX1_noteBlock_1 : decode cX1_noteBlock 1 = .ok (.aload_n 2, 1) := by decide +kernel
theorem dX1_noteBlock_2 : decode cX1_noteBlock 2 = .ok (.invokestatic 159, 3) := by decide +kernel
theorem dX1_noteBlock_5 : decode cX1_noteBlock 5 = .ok (.istore 5, 2) := by decide +kernel
theorem dX1_noteBlock_7 : decode cX1_noteBlock 7 = .ok (.iload 5, 2) := by decide +kernel
theorem dX1_noteBlock_9 : decode cX1_noteBlock 9 = .ok (.iconst (-1), 1) := by decide +kernel
theorem dX1_noteBlock_10 : decode cX1_noteBlock 10 = .ok (.if_icmp .eq 9, 3) := by decide +kernel
theorem dX1_noteBlock_13 : decode cX1_noteBlock 13 = .ok (.iload 5, 2) := by decide +kernel
theorem dX1_noteBlock_15 : decode cX1_noteBlock 15 = .ok (.iload_n 3, 1) := by decide +kernel
theorem dX1_noteBlock_16 : decode cX1_noteBlock 16 = .ok (.if_icmp .ne 66, 3) := by decide +kernel
theorem dX1_noteBlock_19 : decode cX1_noteBlock 19 = .ok (.aload_n 0, 1) := by decide +kernel
theorem dX1_noteBlock_20 : decode cX1_noteBlock 20 = .ok (.getfield 33, 3) := by decide +kernel
theorem dX1_noteBlock_23 : decode cX1_noteBlock 23 = .ok (.iload 4, 2) := by decide +kernel
theorem dX1_noteBlock_25 : decode cX1_noteBlock 25 = .ok (.aload_n 2, 1) := by decide +kernel
theorem dX1_noteBlock_26 : decode cX1_noteBlock 26 = .ok (.iload_n 3, 1) := by decide +kernel
theorem dX1_noteBlock_27 : decode cX1_noteBlock 27 = .ok (.invokevirtual 108, 3) := by decide +kernel
theorem dX1_noteBlock_30 : decode cX1_noteBlock 30 = .ok (.aload_n 1, 1) := by decide +kernel
theorem dX1_noteBlock_31 : decode cX1_noteBlock 31 = .ok (.iload_n 3, 1) := by decide +kernel
theorem dX1_noteBlock_32 : decode cX1_noteBlock 32 = .ok (.invokevirtual 117, 3) := by decide +kernel
theorem dX1_noteBlock_35 : decode cX1_noteBlock 35 = .ok (.isub, 1) := by decide +kernel
theorem dX1_noteBlock_36 : decode cX1_noteBlock 36 = .ok (.iconst 1, 1) := by decide +kernel
theorem dX1_noteBlock_37 : decode cX1_noteBlock 37 = .ok (.iadd, 1) := by decide +kernel
theorem dX1_noteBlock_38 : decode cX1_noteBlock 38 = .ok (.iastore, 1) := by decide +kernel
theorem dX1_noteBlock_39 : decode cX1_noteBlock 39 = .ok (.aload_n 0, 1) := by decide +kernel
theorem dX1_noteBlock_40 : decode cX1_noteBlock 40 = .ok (.getfield 36, 3) := by decide +kernel
theorem dX1_noteBlock_43 : decode cX1_noteBlock 43 = .ok (.iload 4, 2) := by decide +kernel
theorem dX1_noteBlock_45 : decode cX1_noteBlock 45 = .ok (.aload_n 2, 1) := by decide +kernel
theorem dX1_noteBlock_46 : decode cX1_noteBlock 46 = .ok (.iload_n 3, 1) := by decide +kernel
theorem dX1_noteBlock_47 : decode cX1_noteBlock 47 = .ok (.invokevirtual 117, 3) := by decide +kernel
theorem dX1_noteBlock_50 : decode cX1_noteBlock 50 = .ok (.aload_n 1, 1) := by decide +kernel
theorem dX1_noteBlock_51 : decode cX1_noteBlock 51 = .ok (.iload_n 3, 1) := by decide +kernel
theorem dX1_noteBlock_52 : decode cX1_noteBlock 52 = .ok (.invokevirtual 108, 3) := by decide +kernel
theorem dX1_noteBlock_55 : decode cX1_noteBlock 55 = .ok (.isub, 1) := by decide +kernel
theorem dX1_noteBlock_56 : decode cX1_noteBlock 56 = .ok (.iconst 1, 1) := by decide +kernel
theorem dX1_noteBlock_57 : decode cX1_noteBlock 57 = .ok (.isub, 1) := by decide +kernel
theorem dX1_noteBlock_58 : decode cX1_noteBlock 58 = .ok (.iastore, 1) := by decide +kernel
theorem dX1_noteBlock_59 : decode cX1_noteBlock 59 = .ok (.iload 5, 2) := by decide +kernel
theorem dX1_noteBlock_61 : decode cX1_noteBlock 61 = .ok (.iconst (-1), 1) := by decide +kernel
theorem dX1_noteBlock_62 : decode cX1_noteBlock 62 = .ok (.if_icmp .ne 12, 3) := by decide +kernel
theorem dX1_noteBlock_65 : decode cX1_noteBlock 65 = .ok (.aload_n 1, 1) := by decide +kernel
theorem dX1_noteBlock_66 : decode cX1_noteBlock 66 = .ok (.aload_n 2, 1) := by decide +kernel
theorem dX1_noteBlock_67 : decode cX1_noteBlock 67 = .ok (.iload_n 3, 1) := by decide +kernel
theorem dX1_noteBlock_68 : decode cX1_noteBlock 68 = .ok (.invokestatic 194, 3) := by decide +kernel
theorem dX1_noteBlock_71 : decode cX1_noteBlock 71 = .ok (.goto 10, 3) := by decide +kernel
theorem dX1_noteBlock_74 : decode cX1_noteBlock 74 = .ok (.aload_n 1, 1) := by decide +kernel
theorem dX1_noteBlock_75 : decode cX1_noteBlock 75 = .ok (.iconst 0, 1) := by decide +kernel
theorem dX1_noteBlock_76 : decode cX1_noteBlock 76 = .ok (.aload_n 2, 1) := by decide +kernel
theorem dX1_noteBlock_77 : decode cX1_noteBlock 77 = .ok (.iload_n 3, 1) := by decide +kernel
theorem dX1_noteBlock_78 : decode cX1_noteBlock 78 = .ok (.invokestatic 166, 3) := by decide +kernel
theorem dX1_noteBlock_81 : decode cX1_noteBlock 81 = .ok (.ireturn, 1) := by decide +kernel
theorem dX1_noteBlock_82 : decode cX1_noteBlock 82 = .ok (.aload_n 1, 1) := by decide +kernel
theorem dX1_noteBlock_83 : decode cX1_noteBlock 83 = .ok (.aload_n 2, 1) := by decide +kernel
theorem dX1_noteBlock_84 : decode cX1_noteBlock 84 = .ok (.iload_n 3, 1) := by decide +kernel
theorem dX1_noteBlock_85 : decode cX1_noteBlock 85 = .ok (.iload 5, 2) := by decide +kernel
theorem dX1_noteBlock_87 : decode cX1_noteBlock 87 = .ok (.invokestatic 198, 3) := by decide +kernel
theorem dX1_noteBlock_90 : decode cX1_noteBlock 90 = .ok (.invokestatic 201, 3) := by decide +kernel
theorem dX1_noteBlock_93 : decode cX1_noteBlock 93 = .ok (.istore 6, 2) := by decide +kernel
theorem dX1_noteBlock_95 : decode cX1_noteBlock 95 = .ok (.aload_n 0, 1) := by decide +kernel
theorem dX1_noteBlock_96 : decode cX1_noteBlock 96 = .ok (.getfield 33, 3) := by decide +kernel
theorem dX1_noteBlock_99 : decode cX1_noteBlock 99 = .ok (.iload 4, 2) := by decide +kernel
theorem dX1_noteBlock_101 : decode cX1_noteBlock 101 = .ok (.aload_n 2, 1) := by decide +kernel
theorem dX1_noteBlock_102 : decode cX1_noteBlock 102 = .ok (.getfield 84, 3) := by decide +kernel
theorem dX1_noteBlock_105 : decode cX1_noteBlock 105 = .ok (.iload_n 3, 1) := by decide +kernel
theorem dX1_noteBlock_106 : decode cX1_noteBlock 106 = .ok (.iaload, 1) := by decide +kernel
theorem dX1_noteBlock_107 : decode cX1_noteBlock 107 = .ok (.aload_n 1, 1) := by decide +kernel
theorem dX1_noteBlock_108 : decode cX1_noteBlock 108 = .ok (.getfield 87, 3) := by decide +kernel
theorem dX1_noteBlock_111 : decode cX1_noteBlock 111 = .ok (.iload_n 3, 1) := by decide +kernel
theorem dX1_noteBlock_112 : decode cX1_noteBlock 112 = .ok (.iaload, 1) := by decide +kernel
theorem dX1_noteBlock_113 : decode cX1_noteBlock 113 = .ok (.isub, 1) := by decide +kernel
theorem dX1_noteBlock_114 : decode cX1_noteBlock 114 = .ok (.iload 6, 2) := by decide +kernel
theorem dX1_noteBlock_116 : decode cX1_noteBlock 116 = .ok (.isub, 1) := by decide +kernel
theorem dX1_noteBlock_117 : decode cX1_noteBlock 117 = .ok (.iastore, 1) := by decide +kernel
theorem dX1_noteBlock_118 : decode cX1_noteBlock 118 = .ok (.aload_n 0, 1) := by decide +kernel
theorem dX1_noteBlock_119 : decode cX1_noteBlock 119 = .ok (.getfield 36, 3) := by decide +kernel
theorem dX1_noteBlock_122 : decode cX1_noteBlock 122 = .ok (.iload 4, 2) := by decide +kernel
theorem dX1_noteBlock_124 : decode cX1_noteBlock 124 = .ok (.aload_n 2, 1) := by decide +kernel
theorem dX1_noteBlock_125 : decode cX1_noteBlock 125 = .ok (.getfield 87, 3) := by decide +kernel
theorem dX1_noteBlock_128 : decode cX1_noteBlock 128 = .ok (.iload_n 3, 1) := by decide +kernel
theorem dX1_noteBlock_129 : decode cX1_noteBlock 129 = .ok (.iaload, 1) := by decide +kernel
theorem dX1_noteBlock_130 : decode cX1_noteBlock 130 = .ok (.aload_n 1, 1) := by decide +kernel
theorem dX1_noteBlock_131 : decode cX1_noteBlock 131 = .ok (.getfield 84, 3) := by decide +kernel
theorem dX1_noteBlock_134 : decode cX1_noteBlock 134 = .ok (.iload_n 3, 1) := by decide +kernel
theorem dX1_noteBlock_135 : decode cX1_noteBlock 135 = .ok (.iaload, 1) := by decide +kernel
theorem dX1_noteBlock_136 : decode cX1_noteBlock 136 = .ok (.isub, 1) := by decide +kernel
theorem dX1_noteBlock_137 : decode cX1_noteBlock 137 = .ok (.iload 6, 2) := by decide +kernel
theorem dX1_noteBlock_139 : decode cX1_noteBlock 139 = .ok (.iadd, 1) := by decide +kernel
theorem dX1_noteBlock_140 : decode cX1_noteBlock 140 = .ok (.iastore, 1) := by decide +kernel
theorem dX1_noteBlock_141 : decode cX1_noteBlock 141 = .ok (.iload 6, 2) := by decide +kernel
theorem dX1_noteBlock_143 : decode cX1_noteBlock 143 = .ok (.iconst (-1), 1) := by decide +kernel
theorem dX1_noteBlock_144 : decode cX1_noteBlock 144 = .ok (.if_icmp .eq 18, 3) := by decide +kernel
theorem dX1_noteBlock_147 : decode cX1_noteBlock 147 = .ok (.aload_n 1, 1) := by decide +kernel
theorem dX1_noteBlock_148 : decode cX1_noteBlock 148 = .ok (.iconst 0, 1) := by decide +kernel
theorem dX1_noteBlock_149 : decode cX1_noteBlock 149 = .ok (.aload_n 2, 1) := by decide +kernel
theorem dX1_noteBlock_150 : decode cX1_noteBlock 150 = .ok (.iload 5, 2) := by decide +kernel
theorem dX1_noteBlock_152 : decode cX1_noteBlock 152 = .ok (.invokestatic 162, 3) := by decide +kernel
theorem dX1_noteBlock_155 : decode cX1_noteBlock 155 = .ok (.ifCond .eq 7, 3) := by decide +kernel
theorem dX1_noteBlock_158 : decode cX1_noteBlock 158 = .ok (.iconst 1, 1) := by decide +kernel
theorem dX1_noteBlock_159 : decode cX1_noteBlock 159 = .ok (.goto 4, 3) := by decide +kernel
theorem dX1_noteBlock_162 : decode cX1_noteBlock 162 = .ok (.iconst 0, 1) := by decide +kernel
theorem dX1_noteBlock_163 : decode cX1_noteBlock 163 = .ok (.ireturn, 1) := by decide +kernel
set_option maxRecDepth 20000 in
theorem ggX1_overlapAcross_X1_overlap : GoodIn wsX1_overlapAcross wsX1_overlap := goodIn_r _ [4, 5, 6, 7, 8, 9, 10, 11, 12, 13, 14, 15, 16, 17, 18, 19, 20, 21, 22, 23] (by decide +kernel) (by decide +kernel)
set_option maxRecDepth 20000 in
theorem gX1_overlapAcross_X1_overlap : GoodIn wsX1_overlapAcross (va_wsS RX1 162 yX1_overlap wsX1_overlap) := goodIn_app (goodIn_of _ (by decide +kernel)) ggX1_overlapAcross_X1_overlap
theorem dX1_overlapAcross_0 : decode cX1_overlapAcross 0 = .ok (.iconst 0, 1) := by decide +kernel
theorem dX1_overlapAcross_1 : decode cX1_overlapAcross 1 = .ok (.istore_n 3, 1) := by decide +kernel
theorem dX1_overlapAcross_2 : decode cX1_overlapAcross 2 = .ok (.iload_n 3, 1) := by decide +kernel
theorem dX1_overlapAcross_3 : decode cX1_overlapAcross 3 = .ok (.iconst 3, 1) := by decide +kernel
theorem dX1_overlapAcross_4 : decode cX1_overlapAcross 4 = .ok (.if_icmp .ge 26, 3) := by decide +kernel
theorem dX1_overlapAcross_7 : decode cX1_overlapAcross 7 = .ok (.iload_n 3, 1) := by decide +kernel
theorem dX1_overlapAcross_8 : decode cX1_overlapAcross 8 = .ok (.iload_n 2, 1) := by decide +kernel
theorem dX1_overlapAcross_9 : decode cX1_overlapAcross 9 = .ok (.if_icmp .eq 15, 3) := by decide +kernel
theorem dX1_overlapAcross_12 : decode cX1_overlapAcross 12 = .ok (.aload_n 0, 1) := by decide +kernel
theorem dX1_overlapAcross_13 : decode cX1_overlapAcross 13 = .ok (.iconst 0, 1) := by decide +kernel
theorem dX1_overlapAcross_14 : decode cX1_overlapAcross 14 = .ok (.aload_n 1, 1) := by decide +kernel
theorem dX1_overlapAcross_15 : decode cX1_overlapAcross 15 = .ok (.iload_n 3, 1) := by decide +kernel
theorem dX1_overlapAcross_16 : decode cX1_overlapAcross 16 = .ok (.invokestatic 162, 3) := by decide +kernel
theorem dX1_overlapAcross_19 : decode cX1_overlapAcross 19 = .ok (.ifCond .ne 5, 3) := by decide +kernel
theorem dX1_overlapAcross_22 : decode cX1_overlapAcross 22 = .ok (.iconst 0, 1) := by decide +kernel
theorem dX1_overlapAcross_23 : decode cX1_overlapAcross 23 = .ok (.ireturn, 1) := by decide +kernel
theorem dX1_overlapAcross_24 : decode cX1_overlapAcross 24 = .ok (.iinc 3 1, 3) := by decide +kernel
theorem dX1_overlapAcross_27 : decode cX1_overlapAcross 27 = .ok (.goto (-25), 3) := by decide +kernel
theorem dX1_overlapAcross_30 : decode cX1_overlapAcross 30 = .ok (.iconst 1, 1) := by decide +kernel
theorem dX1_overlapAcross_31 : decode cX1_overlapAcross 31 = .ok (.ireturn, 1) := by decide +kernel
theorem dX1_thirdAxis_0 : decode cX1_thirdAxis 0 = .ok (.iconst 3, 1) := by decide +kernel
theorem dX1_thirdAxis_1 : decode cX1_thirdAxis 1 = .ok (.iload_n 0, 1) := by decide +kernel
theorem dX1_thirdAxis_2 : decode cX1_thirdAxis 2 = .ok (.isub, 1) := by decide +kernel
theorem dX1_thirdAxis_3 : decode cX1_thirdAxis 3 = .ok (.iload_n 1, 1) := by decide +kernel
theorem dX1_thirdAxis_4 : decode cX1_thirdAxis 4 = .ok (.isub, 1) := by decide +kernel
theorem dX1_thirdAxis_5 : decode cX1_thirdAxis 5 = .ok (.ireturn, 1) := by decide +kernel
set_option maxRecDepth 20000 in
theorem ggX1_roundWidth_X1_coreGap : GoodIn wsX1_roundWidth wsX1_coreGap := goodIn_r _ [5, 6, 7, 8, 9, 10, 11, 12, 13, 14, 15, 16, 17] (by decide +kernel) (by decide +kernel)
set_option maxRecDepth 20000 in
theorem gX1_roundWidth_X1_coreGap : GoodIn wsX1_roundWidth (va_wsS RX1 179 yX1_coreGap wsX1_coreGap) := goodIn_app (goodIn_of _ (by decide +kernel)) ggX1_roundWidth_X1_coreGap
theorem dX1_roundWidth_0 : decode cX1_roundWidth 0 = .ok (.aload_n 0, 1) := by decide +kernel
theorem dX1_roundWidth_1 : decode cX1_roundWidth 1 = .ok (.getfield 176, 3) := by decide +kernel
theorem dX1_roundWidth_4 : decode cX1_roundWidth 4 = .ok (.aload_n 1, 1) := by decide +kernel
theorem dX1_roundWidth_5 : decode cX1_roundWidth 5 = .ok (.getfield 176, 3) := by decide +kernel
theorem dX1_roundWidth_8 : decode cX1_roundWidth 8 = .ok (.iadd, 1) := by decide +kernel
theorem dX1_roundWidth_9 : decode cX1_roundWidth 9 = .ok (.istore_n 3, 1) := by decide +kernel
theorem dX1_roundWidth_10 : decode cX1_roundWidth 10 = .ok (.aload_n 0, 1) := by decide +kernel
theorem dX1_roundWidth_11 : decode cX1_roundWidth 11 = .ok (.aload_n 1, 1) := by decide +kernel
theorem dX1_roundWidth_12 : decode cX1_roundWidth 12 = .ok (.iload_n 2, 1) := by decide +kernel
theorem dX1_roundWidth_13 : decode cX1_roundWidth 13 = .ok (.invokestatic 179, 3) := by decide +kernel
theorem dX1_roundWidth_16 : decode cX1_roundWidth 16 = .ok (.istore 4, 2) := by decide +kernel
theorem dX1_roundWidth_18 : decode cX1_roundWidth 18 = .ok (.iload_n 3, 1) := by decide +kernel
theorem dX1_roundWidth_19 : decode cX1_roundWidth 19 = .ok (.iload_n 3, 1) := by decide +kernel
theorem dX1_roundWidth_20 : decode cX1_roundWidth 20 = .ok (.imul, 1) := by decide +kernel
theorem dX1_roundWidth_21 : decode cX1_roundWidth 21 = .ok (.iload 4, 2) := by decide +kernel
theorem dX1_roundWidth_23 : decode cX1_roundWidth 23 = .ok (.iload 4, 2) := by decide +kernel
theorem dX1_roundWidth_25 : decode cX1_roundWidth 25 = .ok (.imul, 1) := by decide +kernel
theorem dX1_roundWidth_26 : decode cX1_roundWidth 26 = .ok (.isub, 1) := by decide +kernel
theorem dX1_roundWidth_27 : decode cX1_roundWidth 27 = .ok (.istore 5, 2) := by decide +kernel
theorem dX1_roundWidth_29 : decode cX1_roundWidth 29 = .ok (.iload_n 3, 1) := by decide +kernel
theorem dX1_roundWidth_30 : decode cX1_roundWidth 30 = .ok (.istore 6, 2) := by decide +kernel
theorem dX1_roundWidth_32 : decode cX1_roundWidth 32 = .ok (.iload 6, 2) := by decide +kernel
theorem dX1_roundWidth_34 : decode cX1_roundWidth 34 = .ok (.ifCond .lt 22, 3) := by decide +kernel
theorem dX1_roundWidth_37 : decode cX1_roundWidth 37 = .ok (.iload 6, 2) := by decide +kernel
theorem dX1_roundWidth_39 : decode cX1_roundWidth 39 = .ok (.iload 6, 2) := by decide +kernel
theorem dX1_roundWidth_41 : decode cX1_roundWidth 41 = .ok (.imul, 1) := by decide +kernel
theorem dX1_roundWidth_42 : decode cX1_roundWidth 42 = .ok (.iload 5, 2) := by decide +kernel
theorem dX1_roundWidth_44 : decode cX1_roundWidth 44 = .ok (.if_icmp .ge 6, 3) := by decide +kernel
theorem dX1_roundWidth_47 : decode cX1_roundWidth 47 = .ok (.iload 6, 2) := by decide +kernel
theorem dX1_roundWidth_49 : decode cX1_roundWidth 49 = .ok (.ireturn, 1) := by decide +kernel
theorem dX1_roundWidth_50 : decode cX1_roundWidth 50 = .ok (.iinc 6 (-1), 3) := by decide +kernel
theorem dX1_roundWidth_53 : decode cX1_roundWidth 53 = .ok (.goto (-21), 3) := by decide +kernel
theorem dX1_roundWidth_56 : decode cX1_roundWidth 56 = .ok (.iconst (-1), 1) := by decide +kernel
theorem dX1_roundWidth_57 : decode cX1_roundWidth 57 = .ok (.ireturn, 1) := by decide +kernel
set_option maxRecDepth 20000 in
theorem ggX1_freeShift_X1_blockAt : GoodIn wsX1_freeShift wsX1_blockAt := goodIn_r _ [7, 2, 1, 8, 9, 6, 10, 11, 12, 13, 14, 15, 16, 17, 18] (by decide +kernel) (by decide +kernel)
set_option maxRecDepth 20000 in
theorem gX1_freeShift_X1_blockAt : GoodIn wsX1_freeShift (wsV RX1 204 RX1 yX1_blockAt wsX1_blockAt) := goodIn_app (goodIn_of _ (by decide +kernel)) ggX1_freeShift_X1_blockAt
theorem dX1_freeShift_0 : decode cX1_freeShift 0 = .ok (.iconst 0, 1) := by decide +kernel
theorem dX1_freeShift_1 : decode cX1_freeShift 1 = .ok (.istore_n 3, 1) := by decide +kernel
theorem dX1_freeShift_2 : decode cX1_freeShift 2 = .ok (.iconst 0, 1) := by decide +kernel
theorem dX1_freeShift_3 : decode cX1_freeShift 3 = .ok (.istore 4, 2) := by decide +kernel
theorem dX1_freeShift_5 : decode cX1_freeShift 5 = .ok (.iload 4, 2) := by decide +kernel
theorem dX1_freeShift_7 : decode cX1_freeShift 7 = .ok (.iload_n 1, 1) := by decide +kernel
theorem dX1_freeShift_8 : decode cX1_freeShift 8 = .ok (.if_icmp .ge 51, 3) := by decide +kernel
theorem dX1_freeShift_11 : decode cX1_freeShift 11 = .ok (.aload_n 0, 1) := by decide +kernel
theorem dX1_freeShift_12 : decode cX1_freeShift 12 = .ok (.iload_n 3, 1) := by decide +kernel
theorem dX1_freeShift_13 : decode cX1_freeShift 13 = .ok (.iload_n 1, 1) := by decide +kernel
theorem dX1_freeShift_14 : decode cX1_freeShift 14 = .ok (.invokevirtual 204, 3) := by decide +kernel
theorem dX1_freeShift_17 : decode cX1_freeShift 17 = .ok (.istore 5, 2) := by decide +kernel
theorem dX1_freeShift_19 : decode cX1_freeShift 19 = .ok (.iload 5, 2) := by decide +kernel
theorem dX1_freeShift_21 : decode cX1_freeShift 21 = .ok (.iconst (-1), 1) := by decide +kernel
theorem dX1_freeShift_22 : decode cX1_freeShift 22 = .ok (.if_icmp .ne 5, 3) := by decide +kernel
theorem dX1_freeShift_25 : decode cX1_freeShift 25 = .ok (.iload_n 3, 1) := by decide +kernel
theorem dX1_freeShift_26 : decode cX1_freeShift 26 = .ok (.ireturn, 1) := by decide +kernel
theorem dX1_freeShift_27 : decode cX1_freeShift 27 = .ok (.iload_n 2, 1) := by decide +kernel
theorem dX1_freeShift_28 : decode cX1_freeShift 28 = .ok (.ifCond .eq 15, 3) := by decide +kernel
theorem dX1_freeShift_31 : decode cX1_freeShift 31 = .ok (.aload_n 0, 1) := by decide +kernel
theorem dX1_freeShift_32 : decode cX1_freeShift 32 = .ok (.getfield 36, 3) := by decide +kernel
theorem dX1_freeShift_35 : decode cX1_freeShift 35 = .ok (.iload 5, 2) := by decide +kernel
theorem dX1_freeShift_37 : decode cX1_freeShift 37 = .ok (.iaload, 1) := by decide +kernel
theorem dX1_freeShift_38 : decode cX1_freeShift 38 = .ok (.iconst 1, 1) := by decide +kernel
theorem dX1_freeShift_39 : decode cX1_freeShift 39 = .ok (.iadd, 1) := by decide +kernel
theorem dX1_freeShift_40 : decode cX1_freeShift 40 = .ok (.goto 12, 3) := by decide +kernel
theorem dX1_freeShift_43 : decode cX1_freeShift 43 = .ok (.aload_n 0, 1) := by decide +kernel
theorem dX1_freeShift_44 : decode cX1_freeShift 44 = .ok (.getfield 33, 3) := by decide +kernel
theorem dX1_freeShift_47 : decode cX1_freeShift 47 = .ok (.iload 5, 2) := by decide +kernel
theorem dX1_freeShift_49 : decode cX1_freeShift 49 = .ok (.iaload, 1) := by decide +kernel
theorem dX1_freeShift_50 : decode cX1_freeShift 50 = .ok (.iconst 1, 1) := by decide +kernel
theorem dX1_freeShift_51 : decode cX1_freeShift 51 = .ok (.isub, 1) := by decide +kernel
theorem dX1_freeShift_52 : decode cX1_freeShift 52 = .ok (.istore_n 3, 1) := by decide +kernel
theorem dX1_freeShift_53 : decode cX1_freeShift 53 = .ok (.iinc 4 1, 3) := by decide +kernel
theorem dX1_freeShift_56 : decode cX1_freeShift 56 = .ok (.goto (-51), 3) := by decide +kernel
theorem dX1_freeShift_59 : decode cX1_freeShift 59 = .ok (.iload_n 3, 1) := by decide +kernel
theorem dX1_freeShift_60 : decode cX1_freeShift 60 = .ok (.ireturn, 1) := by decide +kernel
set_option maxRecDepth 20000 in
theorem ggX1_blockAt_X1_isWithin : GoodIn wsX1_blockAt wsX1_isWithin := goodIn_r _ [6] (by decide +kernel) (by decide +kernel)
set_option maxRecDepth 20000 in
theorem gX1_blockAt_X1_isWithin : GoodIn wsX1_blockAt (va_wsS RX1 67 yX1_isWithin wsX1_isWithin) := goodIn_app (goodIn_of _ (by decide +kernel)) ggX1_blockAt_X1_isWithin
theorem dX1_blockAt_0 : decode cX1_blockAt 0 = .ok (.iconst 0, 1) := by decide +kernel
theorem dX1_blockAt_1 : decode cX1_blockAt 1 = .ok (.istore_n 3, 1) := by decide +kernel
theorem dX1_blockAt_2 : decode cX1_blockAt 2 = .ok (.iload_n 3, 1) := by decide +kernel
theorem dX1_blockAt_3 : decode cX1_blockAt 3 = .ok (.iload_n 2, 1) := by decide +kernel
theorem dX1_blockAt_4 : decode cX1_blockAt 4 = .ok (.if_icmp .ge 30, 3) := by decide +kernel
theorem dX1_blockAt_7 : decode cX1_blockAt 7 = .ok (.iload_n 1, 1) := by decide +kernel
theorem dX1_blockAt_8 : decode cX1_blockAt 8 = .ok (.aload_n 0, 1) := by decide +kernel
theorem dX1_blockAt_9 : decode cX1_blockAt 9 = .ok (.getfield 33, 3) := by decide +kernel
theorem dX1_blockAt_12 : decode cX1_blockAt 12 = .ok (.iload_n 3, 1) := by decide +kernel
theorem dX1_blockAt_13 : decode cX1_blockAt 13 = .ok (.iaload, 1) := by decide +kernel
theorem dX1_blockAt_14 : decode cX1_blockAt 14 = .ok (.aload_n 0, 1) := by decide +kernel
theorem dX1_blockAt_15 : decode cX1_blockAt 15 = .ok (.getfield 36, 3) := by decide +kernel
theorem dX1_blockAt_18 : decode cX1_blockAt 18 = .ok (.iload_n 3, 1) := by decide +kernel
theorem dX1_blockAt_19 : decode cX1_blockAt 19 = .ok (.iaload, 1) := by decide +kernel
theorem dX1_blockAt_20 : decode cX1_blockAt 20 = .ok (.invokestatic 67, 3) := by decide +kernel
theorem dX1_blockAt_23 : decode cX1_blockAt 23 = .ok (.ifCond .eq 5, 3) := by decide +kernel
theorem dX1_blockAt_26 : decode cX1_blockAt 26 = .ok (.iload_n 3, 1) := by decide +kernel
theorem dX1_blockAt_27 : decode cX1_blockAt 27 = .ok (.ireturn, 1) := by decide +kernel
theorem dX1_blockAt_28 : decode cX1_blockAt 28 = .ok (.iinc 3 1, 3) := by decide +kernel
theorem dX1_blockAt_31 : decode cX1_blockAt 31 = .ok (.goto (-29), 3) := by decide +kernel
theorem dX1_blockAt_34 : decode cX1_blockAt 34 = .ok (.iconst (-1), 1) := by decide +kernel
theorem dX1_blockAt_35 : decode cX1_blockAt 35 = .ok (.ireturn, 1) := by decide +kernel
theorem dX2_init_0 : decode cX2_init 0 = .ok (.aload_n 0, 1) := by decide +kernel
theorem dX2_init_1 : decode cX2_init 1 = .ok (.invokespecial 1, 3) := by decide +kernel
theorem dX2_init_4 : decode cX2_init 4 = .ok (.aload_n 0, 1) := by decide +kernel
theorem dX2_init_5 : decode cX2_init 5 = .ok (.bipush 60, 2) := by decide +kernel
theorem dX2_init_7 : decode cX2_init 7 = .ok (.newarray .boolean, 2) := by decide +kernel
theorem dX2_init_9 : decode cX2_init 9 = .ok (.putfield 7, 3) := by decide +kernel
theorem dX2_init_12 : decode cX2_init 12 = .ok (.aload_n 0, 1) := by decide +kernel
theorem dX2_init_13 : decode cX2_init 13 = .ok (.bipush 60, 2) := by decide +kernel
theorem dX2_init_15 : decode cX2_init 15 = .ok (.newarray .int, 2) := by decide +kernel
theorem dX2_init_17 : decode cX2_init 17 = .ok (.putfield 13, 3) := by decide +kernel
theorem dX2_init_20 : decode cX2_init 20 = .ok (.aload_n 0, 1) := by decide +kernel
theorem dX2_init_21 : decode cX2_init 21 = .ok (.bipush 60, 2) := by decide +kernel
theorem dX2_init_23 : decode cX2_init 23 = .ok (.newarray .int, 2) := by decide +kernel
theorem dX2_init_25 : decode cX2_init 25 = .ok (.putfield 17, 3) := by decide +kernel
theorem dX2_init_28 : decode cX2_init 28 = .ok (.aload_n 0, 1) := by decide +kernel
theorem dX2_init_29 : decode cX2_init 29 = .ok (.bipush 60, 2) := by decide +kernel
theorem dX2_init_31 : decode cX2_init 31 = .ok (.newarray .int, 2) := by decide +kernel
theorem dX2_init_33 : decode cX2_init 33 = .ok (.putfield 20, 3) := by decide +kernel
theorem dX2_init_36 : decode cX2_init 36 = .ok (.aload_n 0, 1) := by decide +kernel
theorem dX2_init_37 : decode cX2_init 37 = .ok (.bipush 60, 2) := by decide +kernel
theorem dX2_init_39 : decode cX2_init 39 = .ok (.newarray .int, 2) := by decide +kernel
theorem dX2_init_41 : decode cX2_init 41 = .ok (.putfield 23, 3) := by decide +kernel
theorem dX2_init_44 : decode cX2_init 44 = .ok (.aload_n 0, 1) := by decide +kernel
theorem dX2_init_45 : decode cX2_init 45 = .ok (.sipush 180, 3) := by decide +kernel
theorem dX2_init_48 : decode cX2_init 48 = .ok (.newarray .int, 2) := by decide +kernel
theorem dX2_init_50 : decode cX2_init 50 = .ok (.putfield 26, 3) := by decide +kernel
theorem dX2_init_53 : decode cX2_init 53 = .ok (.aload_n 0, 1) := by decide +kernel
theorem dX2_init_54 : decode cX2_init 54 = .ok (.sipush 180, 3) := by decide +kernel
theorem dX2_init_57 : decode cX2_init 57 = .ok (.newarray .int, 2) := by decide +kernel
theorem dX2_init_59 : decode cX2_init 59 = .ok (.putfield 29, 3) := by decide +kernel
theorem dX2_init_62 : decode cX2_init 62 = .ok (.aload_n 0, 1) := by decide +kernel
theorem dX2_init_63 : decode cX2_init 63 = .ok (.bipush 64, 2) := by decide +kernel
theorem dX2_init_65 : decode cX2_init 65 = .ok (.newarray .boolean, 2) := by decide +kernel
theorem dX2_init_67 : decode cX2_init 67 = .ok (.putfield 32, 3) := by decide +kernel
theorem dX2_init_70 : decode cX2_init 70 = .ok (.aload_n 0, 1) := by decide +kernel
theorem dX2_init_71 : decode cX2_init 71 = .ok (.bipush 60, 2) := by decide +kernel
theorem dX2_init_73 : decode cX2_init 73 = .ok (.newarray .int, 2) := by decide +kernel
theorem dX2_init_75 : decode cX2_init 75 = .ok (.putfield 35, 3) := by decide +kernel
theorem dX2_init_78 : decode cX2_init 78 = .ok (.aload_n 0, 1) := by decide +kernel
theorem dX2_init_79 : decode cX2_init 79 = .ok (.iconst (-1), 1) := by decide +kernel
theorem dX2_init_80 : decode cX2_init 80 = .ok (.putfield 38, 3) := by decide +kernel
theorem dX2_init_83 : decode cX2_init 83 = .ok (.return_, 1) := by decide +kernel
theorem dX2_thrown_0 : decode cX2_thrown 0 = .ok (.aload_n 0, 1) := by decide +kernel
theorem dX2_thrown_1 : decode cX2_thrown 1 = .ok (.getfield 42, 3) := by decide +kernel
theorem dX2_thrown_4 : decode cX2_thrown 4 = .ok (.ireturn, 1) := by decide +kernel
theorem dX2_isIn_0 : decode cX2_isIn 0 = .ok (.iload_n 0, 1) := by decide +kernel
theorem dX2_isIn_1 : decode cX2_isIn 1 = .ok (.iload_n 1, 1) := by decide +kernel
theorem dX2_isIn_2 : decode cX2_isIn 2 = .ok (.if_icmp .lt 12, 3) := by decide +kernel
theorem dX2_isIn_5 : decode cX2_isIn 5 = .ok (.iload_n 0, 1) := by decide +kernel
theorem dX2_isIn_6 : decode cX2_isIn 6 = .ok (.iload_n 2, 1) := by decide +kernel
theorem dX2_isIn_7 : decode cX2_isIn 7 = .ok (.if_icmp .gt 7, 3) := by decide +kernel
theorem dX2_isIn_10 : decode cX2_isIn 10 = .ok (.iconst 1, 1) := by decide +kernel
theorem dX2_isIn_11 : decode cX2_isIn 11 = .ok (.goto 4, 3) := by decide +kernel
theorem dX2_isIn_14 : decode cX2_isIn 14 = .ok (.iconst 0, 1) := by decide +kernel
theorem dX2_isIn_15 : decode cX2_isIn 15 = .ok (.ireturn, 1) := by decide +kernel
set_option maxRecDepth 20000 in
theorem ggX2_isKind_X2_isIn : GoodIn wsX2_isKind wsX2_isIn := goodIn_r _ [4] (by decide +kernel) (by decide +kernel)
set_option maxRecDepth 20000 in
theorem gX2_isKind_X2_isIn : GoodIn wsX2_isKind (va_wsS RX2 45 yX2_isIn wsX2_isIn) := goodIn_app (goodIn_of _ (by decide +kernel)) ggX2_isKind_X2_isIn
theorem dX2_isKind_0 : decode cX2_isKind 0 = .ok (.iload_n 0, 1) := by decide +kernel
theorem dX2_isKind_1 : decode cX2_isKind 1 = .ok (.iconst 0, 1) := by decide +kernel
theorem dX2_isKind_2 : decode cX2_isKind 2 = .ok (.bipush 7, 2) := by decide +kernel
theorem dX2_isKind_4 : decode cX2_isKind 4 = .ok (.invokestatic 45, 3) := by decide +kernel
theorem dX2_isKind_7 : decode cX2_isKind 7 = .ok (.ireturn, 1) := by decide +kernel
set_option maxRecDepth 20000 in
theorem ggX2_isAxis_X2_isIn : GoodIn wsX2_isAxis wsX2_isIn := goodIn_r _ [4] (by decide +kernel) (by decide +kernel)
set_option maxRecDepth 20000 in
theorem gX2_isAxis_X2_isIn : GoodIn wsX2_isAxis (va_wsS RX2 45 yX2_isIn wsX2_isIn) := goodIn_app (goodIn_of _ (by decide +kernel)) ggX2_isAxis_X2_isIn
theorem dX2_isAxis_0 : decode cX2_isAxis 0 = .ok (.iload_n 0, 1) := by decide +kernel
theorem dX2_isAxis_1 : decode cX2_isAxis 1 = .ok (.iconst 0, 1) := by decide +kernel
theorem dX2_isAxis_2 : decode cX2_isAxis 2 = .ok (.iconst 2, 1) := by decide +kernel
theorem dX2_isAxis_3 : decode cX2_isAxis 3 = .ok (.invokestatic 45, 3) := by decide +kernel
theorem dX2_isAxis_6 : decode cX2_isAxis 6 = .ok (.ireturn, 1) := by decide +kernel
set_option maxRecDepth 20000 in
theorem ggX2_isPart_X2_isIn : GoodIn wsX2_isPart wsX2_isIn := goodIn_r _ [6] (by decide +kernel) (by decide +kernel)
set_option maxRecDepth 20000 in
theorem gX2_isPart_X2_isIn : GoodIn wsX2_isPart (va_wsS RX2 45 yX2_isIn wsX2_isIn) := goodIn_app (goodIn_of _ (by decide +kernel)) ggX2_isPart_X2_isIn
theorem dX2_isPart_0 : decode cX2_isPart 0 = .ok (.iload_n 1, 1) := by decide +kernel
theorem dX2_isPart_1 : decode cX2_isPart 1 = .ok (.iconst 0, 1) := by decide +kernel
theorem dX2_isPart_2 : decode cX2_isPart 2 = .ok (.aload_n 0, 1) := by decide +kernel
theorem dX2_isPart_3 : decode cX2_isPart 3 = .ok (.getfield 49, 3) := by decide +kernel
theorem dX2_isPart_6 : decode cX2_isPart 6 = .ok (.iconst 1, 1) := by decide +kernel
theorem dX2_isPart_7 : decode cX2_isPart 7 = .ok (.isub, 1) := by decide +kernel
theorem dX2_isPart_8 : decode cX2_isPart 8 = .ok (.invokestatic 45, 3) := by decide +kernel
theorem dX2_isPart_11 : decode cX2_isPart 11 = .ok (.ifCond .eq 16, 3) := by decide +kernel
theorem dX2_isPart_14 : decode cX2_isPart 14 = .ok (.aload_n 0, 1) := by decide +kernel
theorem dX2_isPart_15 : decode cX2_isPart 15 = .ok (.getfield 7, 3) := by decide +kernel
theorem dX2_isPart_18 : decode cX2_isPart 18 = .ok (.iload_n 1, 1) := by decide +kernel
theorem dX2_isPart_19 : decode cX2_isPart 19 = .ok (.baload, 1) := by decide +kernel
theorem dX2_isPart_20 : decode cX2_isPart 20 = .ok (.ifCond .eq 7, 3) := by decide +kernel
theorem dX2_isPart_23 : decode cX2_isPart 23 = .ok (.iconst 1, 1) := by decide +kernel
theorem dX2_isPart_24 : decode cX2_isPart 24 = .ok (.goto 4, 3) := by decide +kernel
theorem dX2_isPart_27 : decode cX2_isPart 27 = .ok (.iconst 0, 1) := by decide +kernel
theorem dX2_isPart_28 : decode cX2_isPart 28 = .ok (.ireturn, 1) := by decide +kernel
theorem dX2_lay_0 : decode cX2_lay 0 = .ok (.aload_n 0, 1) := by decide +kernel
theorem dX2_lay_1 : decode cX2_lay 1 = .ok (.getfield 13, 3) := by decide +kernel
theorem dX2_lay_4 : decode cX2_lay 4 = .ok (.aload_n 0, 1) := by decide +kernel
theorem dX2_lay_5 : decode cX2_lay 5 = .ok (.getfield 49, 3) := by decide +kernel
theorem dX2_lay_8 : decode cX2_lay 8 = .ok (.iload_n 1, 1) := by decide +kernel
theorem dX2_lay_9 : decode cX2_lay 9 = .ok (.iastore, 1) := by decide +kernel
theorem dX2_lay_10 : decode cX2_lay 10 = .ok (.aload_n 0, 1) := by decide +kernel
theorem dX2_lay_11 : decode cX2_lay 11 = .ok (.getfield 17, 3) := by decide +kernel
theorem dX2_lay_14 : decode cX2_lay 14 = .ok (.aload_n 0, 1) := by decide +kernel
theorem dX2_lay_15 : decode cX2_lay 15 = .ok (.getfield 49, 3) := by decide +kernel
theorem dX2_lay_18 : decode cX2_lay 18 = .ok (.iconst 0, 1) := by decide +kernel
theorem dX2_lay_19 : decode cX2_lay 19 = .ok (.iastore, 1) := by decide +kernel
theorem dX2_lay_20 : decode cX2_lay 20 = .ok (.aload_n 0, 1) := by decide +kernel
theorem dX2_lay_21 : decode cX2_lay 21 = .ok (.getfield 20, 3) := by decide +kernel
theorem dX2_lay_24 : decode cX2_lay 24 = .ok (.aload_n 0, 1) := by decide +kernel
theorem dX2_lay_25 : decode cX2_lay 25 = .ok (.getfield 49, 3) := by decide +kernel
theorem dX2_lay_28 : decode cX2_lay 28 = .ok (.iload_n 2, 1) := by decide +kernel
theorem dX2_lay_29 : decode cX2_lay 29 = .ok (.iastore, 1) := by decide +kernel
theorem dX2_lay_30 : decode cX2_lay 30 = .ok (.aload_n 0, 1) := by decide +kernel
theorem dX2_lay_31 : decode cX2_lay 31 = .ok (.getfield 23, 3) := by decide +kernel
theorem dX2_lay_34 : decode cX2_lay 34 = .ok (.aload_n 0, 1) := by decide +kernel
theorem dX2_lay_35 : decode cX2_lay 35 = .ok (.getfield 49, 3) := by decide +kernel
theorem dX2_lay_38 : decode cX2_lay 38 = .ok (.iload_n 3, 1) := by decide +kernel
theorem dX2_lay_39 : decode cX2_lay 39 = .ok (.iastore, 1) := by decide +kernel
theorem dX2_lay_40 : decode cX2_lay 40 = .ok (.aload_n 0, 1) := by decide +kernel
theorem dX2_lay_41 : decode cX2_lay 41 = .ok (.getfield 7, 3) := by decide +kernel
theorem dX2_lay_44 : decode cX2_lay 44 = .ok (.aload_n 0, 1) := by decide +kernel
theorem dX2_lay_45 : decode cX2_lay 45 = .ok (.getfield 49, 3) := by decide +kernel
theorem dX2_lay_48 : decode cX2_lay 48 = .ok (.iconst 1, 1) := by decide +kernel
