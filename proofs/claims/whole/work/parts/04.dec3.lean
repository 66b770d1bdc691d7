set_option maxRecDepth 20000 in
theorem ggX1_rowLacks_X1_isRow : GoodIn wsX1_rowLacks wsX1_isRow := goodIn_r _ [6, 7, 8, 9, 10, 11, 12, 13, 14, 15, 16, 17, 18] (by decide +kernel) (by decide +kernel)
set_option maxRecDepth 20000 in
theorem gX1_rowLacks_X1_isRow : GoodIn wsX1_rowLacks (wsV RX1 93 RX1 yX1_isRow wsX1_isRow) := goodIn_app (goodIn_of _ (by decide +kernel)) ggX1_rowLacks_X1_isRow
theorem dX1_rowLacks_0 : decode cX1_rowLacks 0 = .ok (.aload_n 0, 1) := by decide +kernel
theorem dX1_rowLacks_1 : decode cX1_rowLacks 1 = .ok (.iload_n 1, 1) := by decide +kernel
theorem dX1_rowLacks_2 : decode cX1_rowLacks 2 = .ok (.invokevirtual 93, 3) := by decide +kernel
theorem dX1_rowLacks_5 : decode cX1_rowLacks 5 = .ok (.ifCond .ne 7, 3) := by decide +kernel
theorem dX1_rowLacks_8 : decode cX1_rowLacks 8 = .ok (.iconst 2, 1) := by decide +kernel
theorem dX1_rowLacks_9 : decode cX1_rowLacks 9 = .ok (.goto 17, 3) := by decide +kernel
theorem dX1_rowLacks_12 : decode cX1_rowLacks 12 = .ok (.aload_n 0, 1) := by decide +kernel
theorem dX1_rowLacks_13 : decode cX1_rowLacks 13 = .ok (.getfield 19, 3) := by decide +kernel
theorem dX1_rowLacks_16 : decode cX1_rowLacks 16 = .ok (.iload_n 1, 1) := by decide +kernel
theorem dX1_rowLacks_17 : decode cX1_rowLacks 17 = .ok (.baload, 1) := by decide +kernel
theorem dX1_rowLacks_18 : decode cX1_rowLacks 18 = .ok (.ifCond .eq 7, 3) := by decide +kernel
theorem dX1_rowLacks_21 : decode cX1_rowLacks 21 = .ok (.iconst 1, 1) := by decide +kernel
theorem dX1_rowLacks_22 : decode cX1_rowLacks 22 = .ok (.goto 4, 3) := by decide +kernel
theorem dX1_rowLacks_25 : decode cX1_rowLacks 25 = .ok (.iconst 0, 1) := by decide +kernel
theorem dX1_rowLacks_26 : decode cX1_rowLacks 26 = .ok (.ireturn, 1) := by decide +kernel
set_option maxRecDepth 20000 in
theorem ggX1_seam_X1_rowLacks : GoodIn wsX1_seam wsX1_rowLacks := goodIn_r _ [9, 10, 11, 12, 13, 8, 14, 15, 16, 17, 18, 19, 20, 21, 22, 23, 24, 25, 26] (by decide +kernel) (by decide +kernel)
set_option maxRecDepth 20000 in
theorem gX1_seam_X1_rowLacks : GoodIn wsX1_seam (wsV RX1 105 RX1 yX1_rowLacks wsX1_rowLacks) := goodIn_app (goodIn_of _ (by decide +kernel)) ggX1_seam_X1_rowLacks
theorem dX1_seam_0 : decode cX1_seam 0 = .ok (.aload_n 0, 1) := by decide +kernel
theorem dX1_seam_1 : decode cX1_seam 1 = .ok (.aload_n 0, 1) := by decide +kernel
theorem dX1_seam_2 : decode cX1_seam 2 = .ok (.getfield 73, 3) := by decide +kernel
theorem dX1_seam_5 : decode cX1_seam 5 = .ok (.ifCond .ne 7, 3) := by decide +kernel
theorem dX1_seam_8 : decode cX1_seam 8 = .ok (.iconst 1, 1) := by decide +kernel
theorem dX1_seam_9 : decode cX1_seam 9 = .ok (.goto 8, 3) := by decide +kernel
theorem dX1_seam_12 : decode cX1_seam 12 = .ok (.aload_n 0, 1) := by decide +kernel
theorem dX1_seam_13 : decode cX1_seam 13 = .ok (.iload_n 1, 1) := by decide +kernel
theorem dX1_seam_14 : decode cX1_seam 14 = .ok (.invokevirtual 105, 3) := by decide +kernel
theorem dX1_seam_17 : decode cX1_seam 17 = .ok (.putfield 23, 3) := by decide +kernel
theorem dX1_seam_20 : decode cX1_seam 20 = .ok (.aload_n 0, 1) := by decide +kernel
theorem dX1_seam_21 : decode cX1_seam 21 = .ok (.getfield 23, 3) := by decide +kernel
theorem dX1_seam_24 : decode cX1_seam 24 = .ok (.ifCond .ne 12, 3) := by decide +kernel
theorem dX1_seam_27 : decode cX1_seam 27 = .ok (.aload_n 0, 1) := by decide +kernel
theorem dX1_seam_28 : decode cX1_seam 28 = .ok (.aload_n 0, 1) := by decide +kernel
theorem dX1_seam_29 : decode cX1_seam 29 = .ok (.iload_n 2, 1) := by decide +kernel
theorem dX1_seam_30 : decode cX1_seam 30 = .ok (.invokevirtual 105, 3) := by decide +kernel
theorem dX1_seam_33 : decode cX1_seam 33 = .ok (.putfield 23, 3) := by decide +kernel
theorem dX1_seam_36 : decode cX1_seam 36 = .ok (.iconst 0, 1) := by decide +kernel
theorem dX1_seam_37 : decode cX1_seam 37 = .ok (.istore_n 3, 1) := by decide +kernel
theorem dX1_seam_38 : decode cX1_seam 38 = .ok (.iconst 0, 1) := by decide +kernel
theorem dX1_seam_39 : decode cX1_seam 39 = .ok (.istore 4, 2) := by decide +kernel
theorem dX1_seam_41 : decode cX1_seam 41 = .ok (.iload 4, 2) := by decide +kernel
theorem dX1_seam_43 : decode cX1_seam 43 = .ok (.aload_n 0, 1) := by decide +kernel
theorem dX1_seam_44 : decode cX1_seam 44 = .ok (.getfield 70, 3) := by decide +kernel
theorem dX1_seam_47 : decode cX1_seam 47 = .ok (.if_icmp .ge 51, 3) := by decide +kernel
theorem dX1_seam_50 : decode cX1_seam 50 = .ok (.aload_n 0, 1) := by decide +kernel
theorem dX1_seam_51 : decode cX1_seam 51 = .ok (.getfield 23, 3) := by decide +kernel
theorem dX1_seam_54 : decode cX1_seam 54 = .ok (.ifCond .ne 44, 3) := by decide +kernel
theorem dX1_seam_57 : decode cX1_seam 57 = .ok (.iload_n 3, 1) := by decide +kernel
theorem dX1_seam_58 : decode cX1_seam 58 = .ok (.aload_n 0, 1) := by decide +kernel
theorem dX1_seam_59 : decode cX1_seam 59 = .ok (.getfield 16, 3) := by decide +kernel
theorem dX1_seam_62 : decode cX1_seam 62 = .ok (.bipush 40, 2) := by decide +kernel
theorem dX1_seam_64 : decode cX1_seam 64 = .ok (.iload_n 1, 1) := by decide +kernel
theorem dX1_seam_65 : decode cX1_seam 65 = .ok (.imul, 1) := by decide +kernel
theorem dX1_seam_66 : decode cX1_seam 66 = .ok (.iload 4, 2) := by decide +kernel
theorem dX1_seam_68 : decode cX1_seam 68 = .ok (.iadd, 1) := by decide +kernel
theorem dX1_seam_69 : decode cX1_seam 69 = .ok (.iaload, 1) := by decide +kernel
theorem dX1_seam_70 : decode cX1_seam 70 = .ok (.aload_n 0, 1) := by decide +kernel
theorem dX1_seam_71 : decode cX1_seam 71 = .ok (.getfield 16, 3) := by decide +kernel
theorem dX1_seam_74 : decode cX1_seam 74 = .ok (.bipush 40, 2) := by decide +kernel
theorem dX1_seam_76 : decode cX1_seam 76 = .ok (.iload_n 2, 1) := by decide +kernel
theorem dX1_seam_77 : decode cX1_seam 77 = .ok (.imul, 1) := by decide +kernel
theorem dX1_seam_78 : decode cX1_seam 78 = .ok (.iload 4, 2) := by decide +kernel
theorem dX1_seam_80 : decode cX1_seam 80 = .ok (.iadd, 1) := by decide +kernel
theorem dX1_seam_81 : decode cX1_seam 81 = .ok (.iaload, 1) := by decide +kernel
theorem dX1_seam_82 : decode cX1_seam 82 = .ok (.if_icmp .ne 7, 3) := by decide +kernel
theorem dX1_seam_85 : decode cX1_seam 85 = .ok (.iconst 1, 1) := by decide +kernel
theorem dX1_seam_86 : decode cX1_seam 86 = .ok (.goto 4, 3) := by decide +kernel
theorem dX1_seam_89 : decode cX1_seam 89 = .ok (.iconst 0, 1) := by decide +kernel
theorem dX1_seam_90 : decode cX1_seam 90 = .ok (.iadd, 1) := by decide +kernel
theorem dX1_seam_91 : decode cX1_seam 91 = .ok (.istore_n 3, 1) := by decide +kernel
theorem dX1_seam_92 : decode cX1_seam 92 = .ok (.iinc 4 1, 3) := by decide +kernel
theorem dX1_seam_95 : decode cX1_seam 95 = .ok (.goto (-54), 3) := by decide +kernel
theorem dX1_seam_98 : decode cX1_seam 98 = .ok (.iload_n 3, 1) := by decide +kernel
theorem dX1_seam_99 : decode cX1_seam 99 = .ok (.ireturn, 1) := by decide +kernel
set_option maxRecDepth 20000 in
theorem ggX1_sumOfAll_X1_at : GoodIn wsX1_sumOfAll wsX1_at := goodIn_r _ [6] (by decide +kernel) (by decide +kernel)
set_option maxRecDepth 20000 in
theorem gX1_sumOfAll_X1_at : GoodIn wsX1_sumOfAll (va_wsS RX1 43 yX1_at wsX1_at) := goodIn_app (goodIn_of _ (by decide +kernel)) ggX1_sumOfAll_X1_at
theorem dX1_sumOfAll_0 : decode cX1_sumOfAll 0 = .ok (.iconst 0, 1) := by decide +kernel
theorem dX1_sumOfAll_1 : decode cX1_sumOfAll 1 = .ok (.istore_n 1, 1) := by decide +kernel
theorem dX1_sumOfAll_2 : decode cX1_sumOfAll 2 = .ok (.iconst 0, 1) := by decide +kernel
theorem dX1_sumOfAll_3 : decode cX1_sumOfAll 3 = .ok (.istore_n 2, 1) := by decide +kernel
theorem dX1_sumOfAll_4 : decode cX1_sumOfAll 4 = .ok (.iload_n 2, 1) := by decide +kernel
theorem dX1_sumOfAll_5 : decode cX1_sumOfAll 5 = .ok (.iconst 5, 1) := by decide +kernel
theorem dX1_sumOfAll_6 : decode cX1_sumOfAll 6 = .ok (.if_icmp .ge 46, 3) := by decide +kernel
theorem dX1_sumOfAll_9 : decode cX1_sumOfAll 9 = .ok (.iconst 0, 1) := by decide +kernel
theorem dX1_sumOfAll_10 : decode cX1_sumOfAll 10 = .ok (.istore_n 3, 1) := by decide +kernel
theorem dX1_sumOfAll_11 : decode cX1_sumOfAll 11 = .ok (.iload_n 3, 1) := by decide +kernel
theorem dX1_sumOfAll_12 : decode cX1_sumOfAll 12 = .ok (.aload_n 0, 1) := by decide +kernel
theorem dX1_sumOfAll_13 : decode cX1_sumOfAll 13 = .ok (.getfield 7, 3) := by decide +kernel
theorem dX1_sumOfAll_16 : decode cX1_sumOfAll 16 = .ok (.iconst 2, 1) := by decide +kernel
theorem dX1_sumOfAll_17 : decode cX1_sumOfAll 17 = .ok (.iload_n 2, 1) := by decide +kernel
theorem dX1_sumOfAll_18 : decode cX1_sumOfAll 18 = .ok (.imul, 1) := by decide +kernel
theorem dX1_sumOfAll_19 : decode cX1_sumOfAll 19 = .ok (.iaload, 1) := by decide +kernel
theorem dX1_sumOfAll_20 : decode cX1_sumOfAll 20 = .ok (.if_icmp .ge 26, 3) := by decide +kernel
theorem dX1_sumOfAll_23 : decode cX1_sumOfAll 23 = .ok (.iload_n 1, 1) := by decide +kernel
theorem dX1_sumOfAll_24 : decode cX1_sumOfAll 24 = .ok (.iload_n 2, 1) := by decide +kernel
theorem dX1_sumOfAll_25 : decode cX1_sumOfAll 25 = .ok (.iconst 1, 1) := by decide +kernel
theorem dX1_sumOfAll_26 : decode cX1_sumOfAll 26 = .ok (.iadd, 1) := by decide +kernel
theorem dX1_sumOfAll_27 : decode cX1_sumOfAll 27 = .ok (.aload_n 0, 1) := by decide +kernel
theorem dX1_sumOfAll_28 : decode cX1_sumOfAll 28 = .ok (.getfield 13, 3) := by decide +kernel
theorem dX1_sumOfAll_31 : decode cX1_sumOfAll 31 = .ok (.iload_n 2, 1) := by decide +kernel
theorem dX1_sumOfAll_32 : decode cX1_sumOfAll 32 = .ok (.iload_n 3, 1) := by decide +kernel
theorem dX1_sumOfAll_33 : decode cX1_sumOfAll 33 = .ok (.invokestatic 43, 3) := by decide +kernel
theorem dX1_sumOfAll_36 : decode cX1_sumOfAll 36 = .ok (.iaload, 1) := by decide +kernel
theorem dX1_sumOfAll_37 : decode cX1_sumOfAll 37 = .ok (.imul, 1) := by decide +kernel
theorem dX1_sumOfAll_38 : decode cX1_sumOfAll 38 = .ok (.iadd, 1) := by decide +kernel
theorem dX1_sumOfAll_39 : decode cX1_sumOfAll 39 = .ok (.istore_n 1, 1) := by decide +kernel
theorem dX1_sumOfAll_40 : decode cX1_sumOfAll 40 = .ok (.iinc 3 1, 3) := by decide +kernel
theorem dX1_sumOfAll_43 : decode cX1_sumOfAll 43 = .ok (.goto (-32), 3) := by decide +kernel
theorem dX1_sumOfAll_46 : decode cX1_sumOfAll 46 = .ok (.iinc 2 1, 3) := by decide +kernel
theorem dX1_sumOfAll_49 : decode cX1_sumOfAll 49 = .ok (.goto (-45), 3) := by decide +kernel
theorem dX1_sumOfAll_52 : decode cX1_sumOfAll 52 = .ok (.iload_n 1, 1) := by decide +kernel
theorem dX1_sumOfAll_53 : decode cX1_sumOfAll 53 = .ok (.ireturn, 1) := by decide +kernel
set_option maxRecDepth 20000 in
theorem ggX1_sum_X1_sumOfAll : GoodIn wsX1_sum wsX1_sumOfAll := goodIn_r _ [11, 2, 12, 13, 14, 10, 15, 16, 17, 18, 19, 20, 21, 22, 23, 24, 25, 26] (by decide +kernel) (by decide +kernel)
set_option maxRecDepth 20000 in
theorem gX1_sum_X1_sumOfAll : GoodIn wsX1_sum (wsV RX1 109 RX1 yX1_sumOfAll wsX1_sumOfAll) := goodIn_app (goodIn_of _ (by decide +kernel)) ggX1_sum_X1_sumOfAll
theorem dX1_sum_0 : decode cX1_sum 0 = .ok (.aload_n 0, 1) := by decide +kernel
theorem dX1_sum_1 : decode cX1_sum 1 = .ok (.iload_n 1, 1) := by decide +kernel
theorem dX1_sum_2 : decode cX1_sum 2 = .ok (.ifCond .lt 8, 3) := by decide +kernel
theorem dX1_sum_5 : decode cX1_sum 5 = .ok (.iload_n 1, 1) := by decide +kernel
theorem dX1_sum_6 : decode cX1_sum 6 = .ok (.iconst 4, 1) := by decide +kernel
theorem dX1_sum_7 : decode cX1_sum 7 = .ok (.if_icmp .le 7, 3) := by decide +kernel
theorem dX1_sum_10 : decode cX1_sum 10 = .ok (.iconst 1, 1) := by decide +kernel
theorem dX1_sum_11 : decode cX1_sum 11 = .ok (.goto 4, 3) := by decide +kernel
theorem dX1_sum_14 : decode cX1_sum 14 = .ok (.iconst 0, 1) := by decide +kernel
theorem dX1_sum_15 : decode cX1_sum 15 = .ok (.putfield 23, 3) := by decide +kernel
theorem dX1_sum_18 : decode cX1_sum 18 = .ok (.iconst 0, 1) := by decide +kernel
theorem dX1_sum_19 : decode cX1_sum 19 = .ok (.istore_n 2, 1) := by decide +kernel
theorem dX1_sum_20 : decode cX1_sum 20 = .ok (.iload_n 1, 1) := by decide +kernel
theorem dX1_sum_21 : decode cX1_sum 21 = .ok (.tableswitch 153 0 4 #[35, 40, 75, 91, 107], 35) := by decide +kernel
theorem dX1_sum_56 : decode cX1_sum 56 = .ok (.aload_n 0, 1) := by decide +kernel
theorem dX1_sum_57 : decode cX1_sum 57 = .ok (.invokevirtual 109, 3) := by decide +kernel
theorem dX1_sum_60 : decode cX1_sum 60 = .ok (.ireturn, 1) := by decide +kernel
theorem dX1_sum_61 : decode cX1_sum 61 = .ok (.iconst 0, 1) := by decide +kernel
theorem dX1_sum_62 : decode cX1_sum 62 = .ok (.istore_n 3, 1) := by decide +kernel
theorem dX1_sum_63 : decode cX1_sum 63 = .ok (.iload_n 3, 1) := by decide +kernel
theorem dX1_sum_64 : decode cX1_sum 64 = .ok (.iconst 5, 1) := by decide +kernel
theorem dX1_sum_65 : decode cX1_sum 65 = .ok (.if_icmp .ge 29, 3) := by decide +kernel
theorem dX1_sum_68 : decode cX1_sum 68 = .ok (.iload_n 2, 1) := by decide +kernel
theorem dX1_sum_69 : decode cX1_sum 69 = .ok (.aload_n 0, 1) := by decide +kernel
theorem dX1_sum_70 : decode cX1_sum 70 = .ok (.getfield 7, 3) := by decide +kernel
theorem dX1_sum_73 : decode cX1_sum 73 = .ok (.iconst 2, 1) := by decide +kernel
theorem dX1_sum_74 : decode cX1_sum 74 = .ok (.iload_n 3, 1) := by decide +kernel
theorem dX1_sum_75 : decode cX1_sum 75 = .ok (.imul, 1) := by decide +kernel
theorem dX1_sum_76 : decode cX1_sum 76 = .ok (.iaload, 1) := by decide +kernel
theorem dX1_sum_77 : decode cX1_sum 77 = .ok (.iconst (-1), 1) := by decide +kernel
theorem dX1_sum_78 : decode cX1_sum 78 = .ok (.if_icmp .ne 7, 3) := by decide +kernel
theorem dX1_sum_81 : decode cX1_sum 81 = .ok (.iconst 1, 1) := by decide +kernel
theorem dX1_sum_82 : decode cX1_sum 82 = .ok (.goto 4, 3) := by decide +kernel
theorem dX1_sum_85 : decode cX1_sum 85 = .ok (.iconst 0, 1) := by decide +kernel
theorem dX1_sum_86 : decode cX1_sum 86 = .ok (.iadd, 1) := by decide +kernel
theorem dX1_sum_87 : decode cX1_sum 87 = .ok (.istore_n 2, 1) := by decide +kernel
theorem dX1_sum_88 : decode cX1_sum 88 = .ok (.iinc 3 1, 3) := by decide +kernel
theorem dX1_sum_91 : decode cX1_sum 91 = .ok (.goto (-28), 3) := by decide +kernel
theorem dX1_sum_94 : decode cX1_sum 94 = .ok (.iload_n 2, 1) := by decide +kernel
theorem dX1_sum_95 : decode cX1_sum 95 = .ok (.ireturn, 1) := by decide +kernel
theorem dX1_sum_96 : decode cX1_sum 96 = .ok (.aload_n 0, 1) := by decide +kernel
theorem dX1_sum_97 : decode cX1_sum 97 = .ok (.getfield 73, 3) := by decide +kernel
theorem dX1_sum_100 : decode cX1_sum 100 = .ok (.ifCond .eq 10, 3) := by decide +kernel
theorem dX1_sum_103 : decode cX1_sum 103 = .ok (.aload_n 0, 1) := by decide +kernel
theorem dX1_sum_104 : decode cX1_sum 104 = .ok (.getfield 67, 3) := by decide +kernel
theorem dX1_sum_107 : decode cX1_sum 107 = .ok (.goto 4, 3) := by decide +kernel
theorem dX1_sum_110 : decode cX1_sum 110 = .ok (.iconst (-1), 1) := by decide +kernel
theorem dX1_sum_111 : decode cX1_sum 111 = .ok (.ireturn, 1) := by decide +kernel
theorem dX1_sum_112 : decode cX1_sum 112 = .ok (.aload_n 0, 1) := by decide +kernel
theorem dX1_sum_113 : decode cX1_sum 113 = .ok (.getfield 73, 3) := by decide +kernel
theorem dX1_sum_116 : decode cX1_sum 116 = .ok (.ifCond .eq 10, 3) := by decide +kernel
theorem dX1_sum_119 : decode cX1_sum 119 = .ok (.aload_n 0, 1) := by decide +kernel
theorem dX1_sum_120 : decode cX1_sum 120 = .ok (.getfield 70, 3) := by decide +kernel
theorem dX1_sum_123 : decode cX1_sum 123 = .ok (.goto 4, 3) := by decide +kernel
theorem dX1_sum_126 : decode cX1_sum 126 = .ok (.iconst (-1), 1) := by decide +kernel
theorem dX1_sum_127 : decode cX1_sum 127 = .ok (.ireturn, 1) := by decide +kernel
theorem dX1_sum_128 : decode cX1_sum 128 = .ok (.iconst 0, 1) := by decide +kernel
theorem dX1_sum_129 : decode cX1_sum 129 = .ok (.istore_n 3, 1) := by decide +kernel
theorem dX1_sum_130 : decode cX1_sum 130 = .ok (.iload_n 3, 1) := by decide +kernel
theorem dX1_sum_131 : decode cX1_sum 131 = .ok (.aload_n 0, 1) := by decide +kernel
theorem dX1_sum_132 : decode cX1_sum 132 = .ok (.getfield 67, 3) := by decide +kernel
theorem dX1_sum_135 : decode cX1_sum 135 = .ok (.if_icmp .ge 26, 3) := by decide +kernel
theorem dX1_sum_138 : decode cX1_sum 138 = .ok (.iload_n 2, 1) := by decide +kernel
theorem dX1_sum_139 : decode cX1_sum 139 = .ok (.aload_n 0, 1) := by decide +kernel
theorem dX1_sum_140 : decode cX1_sum 140 = .ok (.getfield 19, 3) := by decide +kernel
theorem dX1_sum_143 : decode cX1_sum 143 = .ok (.iload_n 3, 1) := by decide +kernel
theorem dX1_sum_144 : decode cX1_sum 144 = .ok (.baload, 1) := by decide +kernel
theorem dX1_sum_145 : decode cX1_sum 145 = .ok (.ifCond .eq 7, 3) := by decide +kernel
theorem dX1_sum_148 : decode cX1_sum 148 = .ok (.iconst 1, 1) := by decide +kernel
theorem dX1_sum_149 : decode cX1_sum 149 = .ok (.goto 4, 3) := by decide +kernel
theorem dX1_sum_152 : decode cX1_sum 152 = .ok (.iconst 0, 1) := by decide +kernel
theorem dX1_sum_153 : decode cX1_sum 153 = .ok (.iadd, 1) := by decide +kernel
theorem dX1_sum_154 : decode cX1_sum 154 = .ok (.istore_n 2, 1) := by decide +kernel
theorem dX1_sum_155 : decode cX1_sum 155 = .ok (.iinc 3 1, 3) := by decide +kernel
theorem dX1_sum_158 : decode cX1_sum 158 = .ok (.goto (-28), 3) := by decide +kernel
theorem dX1_sum_161 : decode cX1_sum 161 = .ok (.aload_n 0, 1) := by decide +kernel
theorem dX1_sum_162 : decode cX1_sum 162 = .ok (.getfield 73, 3) := by decide +kernel
theorem dX1_sum_165 : decode cX1_sum 165 = .ok (.ifCond .eq 7, 3) := by decide +kernel
theorem dX1_sum_168 : decode cX1_sum 168 = .ok (.iload_n 2, 1) := by decide +kernel
theorem dX1_sum_169 : decode cX1_sum 169 = .ok (.goto 4, 3) := by decide +kernel
theorem dX1_sum_172 : decode cX1_sum 172 = .ok (.iconst (-1), 1) := by decide +kernel
theorem dX1_sum_173 : decode cX1_sum 173 = .ok (.ireturn, 1) := by decide +kernel
theorem dX1_sum_174 : decode cX1_sum 174 = .ok (.iconst 0, 1) := by decide +kernel
theorem dX1_sum_175 : decode cX1_sum 175 = .ok (.ireturn, 1) := by decide +kernel
theorem dJ9_max_7cf53_0 : decode cJ9_max_7cf53 0 = .ok (.iload_n 0, 1) := by decide +kernel
theorem dJ9_max_7cf53_1 : decode cJ9_max_7cf53 1 = .ok (.iload_n 1, 1) := by decide +kernel
theorem dJ9_max_7cf53_2 : decode cJ9_max_7cf53 2 = .ok (.if_icmp .lt 7, 3) := by decide +kernel
theorem dJ9_max_7cf53_5 : decode cJ9_max_7cf53 5 = .ok (.iload_n 0, 1) := by decide +kernel
theorem dJ9_max_7cf53_6 : decode cJ9_max_7cf53 6 = .ok (.goto 4, 3) := by decide +kernel
theorem dJ9_max_7cf53_9 : decode cJ9_max_7cf53 9 = .ok (.iload_n 1, 1) := by decide +kernel
theorem dJ9_max_7cf53_10 : decode cJ9_max_7cf53 10 = .ok (.ireturn, 1) := by decide +kernel
theorem dJ9_min_7cf53_0 : decode cJ9_min_7cf53 0 = .ok (.iload_n 0, 1) := by decide +kernel
theorem dJ9_min_7cf53_1 : decode cJ9_min_7cf53 1 = .ok (.iload_n 1, 1) := by decide +kernel
theorem dJ9_min_7cf53_2 : decode cJ9_min_7cf53 2 = .ok (.if_icmp .gt 7, 3) := by decide +kernel
theorem dJ9_min_7cf53_5 : decode cJ9_min_7cf53 5 = .ok (.iload_n 0, 1) := by decide +kernel
theorem dJ9_min_7cf53_6 : decode cJ9_min_7cf53 6 = .ok (.goto 4, 3) := by decide +kernel
theorem dJ9_min_7cf53_9 : decode cJ9_min_7cf53 9 = .ok (.iload_n 1, 1) := by decide +kernel
theorem dJ9_min_7cf53_10 : decode cJ9_min_7cf53 10 = .ok (.ireturn, 1) := by decide +kernel
theorem dJ7_fill_53178_0 : decode cJ7_fill_53178 0 = .ok (.iconst 0, 1) := by decide +kernel
theorem dJ7_fill_53178_1 : decode cJ7_fill_53178 1 = .ok (.istore_n 2, 1) := by decide +kernel
theorem dJ7_fill_53178_2 : decode cJ7_fill_53178 2 = .ok (.aload_n 0, 1) := by decide +kernel
theorem dJ7_fill_53178_3 : decode cJ7_fill_53178 3 = .ok (.arraylength, 1) := by decide +kernel
theorem dJ7_fill_53178_4 : decode cJ7_fill_53178 4 = .ok (.istore_n 3, 1) := by decide +kernel
theorem dJ7_fill_53178_5 : decode cJ7_fill_53178 5 = .ok (.iload_n 2, 1) := by decide +kernel
theorem dJ7_fill_53178_6 : decode cJ7_fill_53178 6 = .ok (.iload_n 3, 1) := by decide +kernel
theorem dJ7_fill_53178_7 : decode cJ7_fill_53178 7 = .ok (.if_icmp .ge 13, 3) := by decide +kernel
theorem dJ7_fill_53178_10 : decode cJ7_fill_53178 10 = .ok (.aload_n 0, 1) := by decide +kernel
theorem dJ7_fill_53178_11 : decode cJ7_fill_53178 11 = .ok (.iload_n 2, 1) := by decide +kernel
theorem dJ7_fill_53178_12 : decode cJ7_fill_53178 12 = .ok (.iload_n 1, 1) := by decide +kernel
theorem dJ7_fill_53178_13 : decode cJ7_fill_53178 13 = .ok (.iastore, 1) := by decide +kernel
theorem dJ7_fill_53178_14 : decode cJ7_fill_53178 14 = .ok (.iinc 2 1, 3) := by decide +kernel
theorem dJ7_fill_53178_17 : decode cJ7_fill_53178 17 = .ok (.goto (-12), 3) := by decide +kernel
theorem dJ7_fill_53178_20 : decode cJ7_fill_53178 20 = .ok (.return_, 1) := by decide +kernel
set_option maxRecDepth 20000 in
theorem ggL_mount_X0_mount : GoodIn wsL_mount wsX0_mount := goodIn_ca (goodIn_r _ [6, 7, 8, 9, 10, 11, 12, 5, 13, 14, 15, 16, 17, 18, 19, 20, 21, 22, 23, 24, 25, 26, 27] (by decide +kernel) (by decide +kernel)) (goodIn_sub (fun _ h => List.mem_cons_of_mem _ (List.mem_append_right _ h)) (by decide +kernel))
set_option maxRecDepth 20000 in
theorem gL_mount_X0_mount : GoodIn wsL_mount (wsV RL 7 RX0 yX0_mount wsX0_mount) := goodIn_app (goodIn_of _ (by decide +kernel)) ggL_mount_X0_mount
theorem dL_mount_0 : decode cL_mount 0 = .ok (.aload_n 3, 1) := by decide +kernel
theorem dL_mount_1 : decode cL_mount 1 = .ok (.iconst 0, 1) := by decide +kernel
theorem dL_mount_2 : decode cL_mount 2 = .ok (.aload_n 0, 1) := by decide +kernel
theorem dL_mount_3 : decode cL_mount 3 = .ok (.iload_n 1, 1) := by decide +kernel
theorem dL_mount_4 : decode cL_mount 4 = .ok (.iload_n 2, 1) := by decide +kernel
theorem dL_mount_5 : decode cL_mount 5 = .ok (.invokevirtual 7, 3) := by decide +kernel
theorem dL_mount_8 : decode cL_mount 8 = .ok (.i2l, 1) := by decide +kernel
theorem dL_mount_9 : decode cL_mount 9 = .ok (.lastore, 1) := by decide +kernel
theorem dL_mount_10 : decode cL_mount 10 = .ok (.goto 7, 3) := by decide +kernel
theorem dL_mount_13 : decode cL_mount 13 = .ok (.astore 4, 2) := by decide +kernel
theorem dL_mount_15 : decode cL_mount 15 = .ok (.iconst 1, 1) := by decide +kernel
theorem dL_mount_16 : decode cL_mount 16 = .ok (.ireturn, 1) := by decide +kernel
theorem dL_mount_17 : decode cL_mount 17 = .ok (.iconst 0, 1) := by decide +kernel
theorem dL_mount_18 : decode cL_mount 18 = .ok (.ireturn, 1) := by decide +kernel
set_option maxRecDepth 20000 in
theorem ggL_off_X0_off : GoodIn wsL_off wsX0_off := goodIn_ca (goodIn_ca (goodIn_r _ [7, 8, 9, 10, 6, 11, 12, 13, 14, 15, 16, 17, 18, 19, 20, 21, 22, 23, 24, 25, 26, 27, 28, 29, 30] (by decide +kernel) (by decide +kernel)) (goodIn_sub (fun _ h => List.mem_cons_of_mem _ (List.mem_append_left _ (List.mem_append_right _ h))) (by decide +kernel))) (goodIn_sub (fun _ h => List.mem_cons_of_mem _ (List.mem_append_right _ h)) (by decide +kernel))
set_option maxRecDepth 20000 in
theorem gL_off_X0_off : GoodIn wsL_off (wsV RL 15 RX0 yX0_off wsX0_off) := goodIn_app (goodIn_of _ (by decide +kernel)) ggL_off_X0_off
theorem dL_off_0 : decode cL_off 0 = .ok (.aload_n 2, 1) := by decide +kernel
theorem dL_off_1 : decode cL_off 1 = .ok (.iconst 0, 1) := by decide +kernel
theorem dL_off_2 : decode cL_off 2 = .ok (.aload_n 0, 1) := by decide +kernel
theorem dL_off_3 : decode cL_off 3 = .ok (.iload_n 1, 1) := by decide +kernel
theorem dL_off_4 : decode cL_off 4 = .ok (.invokevirtual 15, 3) := by decide +kernel
theorem dL_off_7 : decode cL_off 7 = .ok (.i2l, 1) := by decide +kernel
theorem dL_off_8 : decode cL_off 8 = .ok (.lastore, 1) := by decide +kernel
theorem dL_off_9 : decode cL_off 9 = .ok (.goto 9, 3) := by decide +kernel
theorem dL_off_12 : decode cL_off 12 = .ok (.astore_n 3, 1) := by decide +kernel
theorem dL_off_13 : decode cL_off 13 = .ok (.iconst 1, 1) := by decide +kernel
theorem dL_off_14 : decode cL_off 14 = .ok (.ireturn, 1) := by decide +kernel
theorem dL_off_15 : decode cL_off 15 = .ok (.astore_n 3, 1) := by decide +kernel
theorem dL_off_16 : decode cL_off 16 = .ok (.iconst 2, 1) := by decide +kernel
theorem dL_off_17 : decode cL_off 17 = .ok (.ireturn, 1) := by decide +kernel
theorem dL_off_18 : decode cL_off 18 = .ok (.iconst 0, 1) := by decide +kernel
theorem dL_off_19 : decode cL_off 19 = .ok (.ireturn, 1) := by decide +kernel
set_option maxRecDepth 20000 in
theorem ggL_swap_X0_swap : GoodIn wsL_swap wsX0_swap := goodIn_ca (goodIn_r _ [6, 7, 8, 9, 10, 11, 12, 5, 13, 14, 15, 16, 17, 18, 19, 20, 21, 22, 23, 24, 25, 26, 27, 28, 29] (by decide +kernel) (by decide +kernel)) (goodIn_sub (fun _ h => List.mem_cons_of_mem _ (List.mem_append_right _ h)) (by decide +kernel))
set_option maxRecDepth 20000 in
theorem gL_swap_X0_swap : GoodIn wsL_swap (wsV RL 21 RX0 yX0_swap wsX0_swap) := goodIn_app (goodIn_of _ (by decide +kernel)) ggL_swap_X0_swap
theorem dL_swap_0 : decode cL_swap 0 = .ok (.aload_n 2, 1) := by decide +kernel
theorem dL_swap_1 : decode cL_swap 1 = .ok (.iconst 0, 1) := by decide +kernel
theorem dL_swap_2 : decode cL_swap 2 = .ok (.aload_n 0, 1) := by decide +kernel
theorem dL_swap_3 : decode cL_swap 3 = .ok (.iload_n 1, 1) := by decide +kernel
theorem dL_swap_4 : decode cL_swap 4 = .ok (.invokevirtual 21, 3) := by decide +kernel
theorem dL_swap_7 : decode cL_swap 7 = .ok (.i2l, 1) := by decide +kernel
theorem dL_swap_8 : decode cL_swap 8 = .ok (.lastore, 1) := by decide +kernel
theorem dL_swap_9 : decode cL_swap 9 = .ok (.goto 6, 3) := by decide +kernel
theorem dL_swap_12 : decode cL_swap 12 = .ok (.astore_n 3, 1) := by decide +kernel
theorem dL_swap_13 : decode cL_swap 13 = .ok (.iconst 1, 1) := by decide +kernel
theorem dL_swap_14 : decode cL_swap 14 = .ok (.ireturn, 1) := by decide +kernel
theorem dL_swap_15 : decode cL_swap 15 = .ok (.iconst 0, 1) := by decide +kernel
theorem dL_swap_16 : decode cL_swap 16 = .ok (.ireturn, 1) := by decide +kernel
set_option maxRecDepth 20000 in
theorem ggL_copy_X0_copy : GoodIn wsL_copy wsX0_copy := goodIn_ca (goodIn_ca (goodIn_r _ [7, 8, 9, 10, 11, 12, 13, 6, 14, 15, 16, 17, 18, 19, 20, 21, 22, 23, 24, 25, 26, 27, 28, 29, 30, 31, 32, 33, 34, 35, 36] (by decide +kernel) (by decide +kernel)) (goodIn_sub (fun _ h => List.mem_cons_of_mem _ (List.mem_append_left _ (List.mem_append_right _ h))) (by decide +kernel))) (goodIn_sub (fun _ h => List.mem_cons_of_mem _ (List.mem_append_right _ h)) (by decide +kernel))
set_option maxRecDepth 20000 in
theorem gL_copy_X0_copy : GoodIn wsL_copy (wsV RL 24 RX0 yX0_copy wsX0_copy) := goodIn_app (goodIn_of _ (by decide +kernel)) ggL_copy_X0_copy
theorem dL_copy_0 : decode cL_copy 0 = .ok (.aload_n 2, 1) := by decide +kernel
theorem dL_copy_1 : decode cL_copy 1 = .ok (.iconst 0, 1) := by decide +kernel
theorem dL_copy_2 : decode cL_copy 2 = .ok (.aload_n 0, 1) := by decide +kernel
theorem dL_copy_3 : decode cL_copy 3 = .ok (.iload_n 1, 1) := by decide +kernel
theorem dL_copy_4 : decode cL_copy 4 = .ok (.invokevirtual 24, 3) := by decide +kernel
theorem dL_copy_7 : decode cL_copy 7 = .ok (.i2l, 1) := by decide +kernel
theorem dL_copy_8 : decode cL_copy 8 = .ok (.lastore, 1) := by decide +kernel
theorem dL_copy_9 : decode cL_copy 9 = .ok (.goto 9, 3) := by decide +kernel
theorem dL_copy_12 : decode cL_copy 12 = .ok (.astore_n 3, 1) := by decide +kernel
theorem dL_copy_13 : decode cL_copy 13 = .ok (.iconst 1, 1) := by decide +kernel
theorem dL_copy_14 : decode cL_copy 14 = .ok (.ireturn, 1) := by decide +kernel
theorem dL_copy_15 : decode cL_copy 15 = .ok (.astore_n 3, 1) := by decide +kernel
theorem dL_copy_16 : decode cL_copy 16 = .ok (.iconst 2, 1) := by decide +kernel
theorem dL_copy_17 : decode cL_copy 17 = .ok (.ireturn, 1) := by decide +kernel
theorem dL_copy_18 : decode cL_copy 18 = .ok (.iconst 0, 1) := by decide +kernel
theorem dL_copy_19 : decode cL_copy 19 = .ok (.ireturn, 1) := by decide +kernel
set_option maxRecDepth 20000 in
theorem ggL_size_X0_size : GoodIn wsL_size wsX0_size := goodIn_ca (goodIn_r _ [6, 7, 8, 9, 10, 5, 11, 12, 13, 14, 15, 16, 17, 18, 19, 20, 21, 22, 23, 24] (by decide +kernel) (by decide +kernel)) (goodIn_sub (fun _ h => List.mem_cons_of_mem _ (List.mem_append_right _ h)) (by decide +kernel))
set_option maxRecDepth 20000 in
theorem gL_size_X0_size : GoodIn wsL_size (wsV RL 27 RX0 yX0_size wsX0_size) := goodIn_app (goodIn_of _ (by decide +kernel)) ggL_size_X0_size
theorem dL_size_0 : decode cL_size 0 = .ok (.aload_n 3, 1) := by decide +kernel
theorem dL_size_1 : decode cL_size 1 = .ok (.iconst 0, 1) := by decide +kernel
theorem dL_size_2 : decode cL_size 2 = .ok (.aload_n 0, 1) := by decide +kernel
theorem dL_size_3 : decode cL_size 3 = .ok (.iload_n 1, 1) := by decide +kernel
theorem dL_size_4 : decode cL_size 4 = .ok (.iload_n 2, 1) := by decide +kernel
theorem dL_size_5 : decode cL_size 5 = .ok (.invokevirtual 27, 3) := by decide +kernel
theorem dL_size_8 : decode cL_size 8 = .ok (.i2l, 1) := by decide +kernel
theorem dL_size_9 : decode cL_size 9 = .ok (.lastore, 1) := by decide +kernel
theorem dL_size_10 : decode cL_size 10 = .ok (.goto 7, 3) := by decide +kernel
theorem dL_size_13 : decode cL_size 13 = .ok (.astore 4, 2) := by decide +kernel
theorem dL_size_15 : decode cL_size 15 = .ok (.iconst 1, 1) := by decide +kernel
theorem dL_size_16 : decode cL_size 16 = .ok (.ireturn, 1) := by decide +kernel
theorem dL_size_17 : decode cL_size 17 = .ok (.iconst 0, 1) := by decide +kernel
theorem dL_size_18 : decode cL_size 18 = .ok (.ireturn, 1) := by decide +kernel
set_option maxRecDepth 20000 in
theorem ggL_get_X0_get : GoodIn wsL_get wsX0_get := goodIn_ca (goodIn_ca (goodIn_ca (goodIn_r _ [8, 9, 10, 11, 7, 12, 13, 14, 15, 16, 17, 18, 19, 20, 21, 22, 23, 24, 25, 26, 27, 28, 29, 30, 31, 32, 33, 34, 35, 36, 37, 38, 39, 40, 41] (by decide +kernel) (by decide +kernel)) (goodIn_sub (fun _ h => List.mem_cons_of_mem _ (List.mem_append_left _ (List.mem_append_left _ (List.mem_append_right _ h)))) (by decide +kernel))) (goodIn_sub (fun _ h => List.mem_cons_of_mem _ (List.mem_append_left _ (List.mem_append_right _ h))) (by decide +kernel))) (goodIn_sub (fun _ h => List.mem_cons_of_mem _ (List.mem_append_right _ h)) (by decide +kernel))
set_option maxRecDepth 20000 in
theorem gL_get_X0_get : GoodIn wsL_get (wsV RL 31 RX0 yX0_get wsX0_get) := goodIn_app (goodIn_of _ (by decide +kernel)) ggL_get_X0_get
theorem dL_get_0 : decode cL_get 0 = .ok (.aload_n 3, 1) := by decide +kernel
theorem dL_get_1 : decode cL_get 1 = .ok (.iconst 0, 1) := by decide +kernel
theorem dL_get_2 : decode cL_get 2 = .ok (.aload_n 0, 1) := by decide +kernel
theorem dL_get_3 : decode cL_get 3 = .ok (.iload_n 1, 1) := by decide +kernel
theorem dL_get_4 : decode cL_get 4 = .ok (.iload_n 2, 1) := by decide +kernel
theorem dL_get_5 : decode cL_get 5 = .ok (.invokevirtual 31, 3) := by decide +kernel
theorem dL_get_8 : decode cL_get 8 = .ok (.i2l, 1) := by decide +kernel
theorem dL_get_9 : decode cL_get 9 = .ok (.lastore, 1) := by decide +kernel
theorem dL_get_10 : decode cL_get 10 = .ok (.goto 15, 3) := by decide +kernel
theorem dL_get_13 : decode cL_get 13 = .ok (.astore 4, 2) := by decide +kernel
theorem dL_get_15 : decode cL_get 15 = .ok (.iconst 1, 1) := by decide +kernel
theorem dL_get_16 : decode cL_get 16 = .ok (.ireturn, 1) := by decide +kernel
theorem dL_get_17 : decode cL_get 17 = .ok (.astore 4, 2) := by decide +kernel
theorem dL_get_19 : decode cL_get 19 = .ok (.iconst 2, 1) := by decide +kernel
theorem dL_get_20 : decode cL_get 20 = .ok (.ireturn, 1) := by decide +kernel
theorem dL_get_21 : decode cL_get 21 = .ok (.astore 4, 2) := by decide +kernel
theorem dL_get_23 : decode cL_get 23 = .ok (.iconst 3, 1) := by decide +kernel
theorem dL_get_24 : decode cL_get 24 = .ok (.ireturn, 1) := by decide +kernel
theorem dL_get_25 : decode cL_get 25 = .ok (.iconst 0, 1) := by decide +kernel
theorem dL_get_26 : decode cL_get 26 = .ok (.ireturn, 1) := by decide +kernel
set_option maxRecDepth 20000 in
theorem ggL_set_X0_set : GoodIn wsL_set wsX0_set := goodIn_ca (goodIn_ca (goodIn_ca (goodIn_r _ [8, 9, 10, 7, 11, 12, 13, 14, 15, 16, 17, 18, 19, 20, 21, 22, 23, 24, 25, 26, 27, 28, 29, 30, 31, 32, 33, 34, 35, 36, 37, 38, 39, 40, 41, 42, 43, 44, 45, 46, 47, 48, 49, 50, 51, 52, 53, 54, 55, 56, 57, 58] (by decide +kernel) (by decide +kernel)) (goodIn_sub (fun _ h => List.mem_cons_of_mem _ (List.mem_append_left _ (List.mem_append_left _ (List.mem_append_right _ h)))) (by decide +kernel))) (goodIn_sub (fun _ h => List.mem_cons_of_mem _ (List.mem_append_left _ (List.mem_append_right _ h))) (by decide +kernel))) (goodIn_sub (fun _ h => List.mem_cons_of_mem _ (List.mem_append_right _ h)) (by decide +kernel))
set_option maxRecDepth 20000 in
theorem gL_set_X0_set : GoodIn wsL_set (wsV RL 36 RX0 yX0_set wsX0_set) := goodIn_app (goodIn_of _ (by decide +kernel)) ggL_set_X0_set
theorem dL_set_0 : decode cL_set 0 = .ok (.aload 4, 2) := by decide +kernel
theorem dL_set_2 : decode cL_set 2 = .ok (.iconst 0, 1) := by decide +kernel
theorem dL_set_3 : decode cL_set 3 = .ok (.aload_n 0, 1) := by decide +kernel
theorem dL_set_4 : decode cL_set 4 = .ok (.iload_n 1, 1) := by decide +kernel
theorem dL_set_5 : decode cL_set 5 = .ok (.iload_n 2, 1) := by decide +kernel
theorem dL_set_6 : decode cL_set 6 = .ok (.iload_n 3, 1) := by decide +kernel
theorem dL_set_7 : decode cL_set 7 = .ok (.invokevirtual 36, 3) := by decide +kernel
theorem dL_set_10 : decode cL_set 10 = .ok (.i2l, 1) := by decide +kernel
theorem dL_set_11 : decode cL_set 11 = .ok (.lastore, 1) := by decide +kernel
theorem dL_set_12 : decode cL_set 12 = .ok (.goto 15, 3) := by decide +kernel
theorem dL_set_15 : decode cL_set 15 = .ok (.astore 5, 2) := by decide +kernel
theorem dL_set_17 : decode cL_set 17 = .ok (.iconst 1, 1) := by decide +kernel
theorem dL_set_18 : decode cL_set 18 = .ok (.ireturn, 1) := by decide +kernel
theorem dL_set_19 : decode cL_set 19 = .ok (.astore 5, 2) := by decide +kernel
theorem dL_set_21 : decode cL_set 21 = .ok (.iconst 2, 1) := by decide +kernel
theorem dL_set_22 : decode cL_set 22 = .ok (.ireturn, 1) := by decide +kernel
theorem dL_set_23 : decode cL_set 23 = .ok (.astore 5, 2) := by decide +kernel
theorem dL_set_25 : decode cL_set 25 = .ok (.iconst 3, 1) := by decide +kernel
theorem dL_set_26 : decode cL_set 26 = .ok (.ireturn, 1) := by decide +kernel
theorem dL_set_27 : decode cL_set 27 = .ok (.iconst 0, 1) := by decide +kernel
theorem dL_set_28 : decode cL_set 28 = .ok (.ireturn, 1) := by decide +kernel
set_option maxRecDepth 20000 in
theorem ggL_alter_X0_alter : GoodIn wsL_alter wsX0_alter := goodIn_ca (goodIn_ca (goodIn_ca (goodIn_r _ [8, 9, 10, 11, 7, 12, 13, 14, 15, 16, 17, 18, 19, 20, 21, 22, 23, 24, 25, 26, 27, 28, 29, 30, 31, 32, 33, 34, 35, 36, 37, 38, 39, 40, 41, 42, 43, 44, 45, 46, 47, 48, 49, 50, 51, 52, 53, 54, 55, 56, 57, 58, 59, 60, 61, 62, 63, 64, 65, 66, 67] (by decide +kernel) (by decide +kernel)) (goodIn_sub (fun _ h => List.mem_cons_of_mem _ (List.mem_append_left _ (List.mem_append_left _ (List.mem_append_right _ h)))) (by decide +kernel))) (goodIn_sub (fun _ h => List.mem_cons_of_mem _ (List.mem_append_left _ (List.mem_append_right _ h))) (by decide +kernel))) (goodIn_sub (fun _ h => List.mem_cons_of_mem _ (List.mem_append_right _ h)) (by decide +kernel))
set_option maxRecDepth 20000 in
theorem gL_alter_X0_alter : GoodIn wsL_alter (wsV RL 40 RX0 yX0_alter wsX0_alter) := goodIn_app (goodIn_of _ (by decide +kernel)) ggL_alter_X0_alter
theorem dL_alter_0 : decode cL_alter 0 = .ok (.aload 5, 2) := by decide +kernel
theorem dL_alter_2 : decode cL_alter 2 = .ok (.iconst 0, 1) := by decide +kernel
theorem dL_alter_3 : decode cL_alter 3 = .ok (.aload_n 0, 1) := by decide +kernel
theorem dL_alter_4 : decode cL_alter 4 = .ok (.iload_n 1, 1) := by decide +kernel
theorem dL_alter_5 : decode cL_alter 5 = .ok (.iload_n 2, 1) := by decide +kernel
theorem dL_alter_6 : decode cL_alter 6 = .ok (.iload_n 3, 1) := by decide +kernel
theorem dL_alter_7 : decode cL_alter 7 = .ok (.iload 4, 2) := by decide +kernel
theorem dL_alter_9 : decode cL_alter 9 = .ok (.invokevirtual 40, 3) := by decide +kernel
theorem dL_alter_12 : decode cL_alter 12 = .ok (.i2l, 1) := by decide +kernel
theorem dL_alter_13 : decode cL_alter 13 = .ok (.lastore, 1) := by decide +kernel
theorem dL_alter_14 : decode cL_alter 14 = .ok (.goto 15, 3) := by decide +kernel
theorem dL_alter_17 : decode cL_alter 17 = .ok (.astore 6, 2) := by decide +kernel
theorem dL_alter_19 : decode cL_alter 19 = .ok (.iconst 1, 1) := by decide +kernel
theorem dL_alter_20 : decode cL_alter 20 = .ok (.ireturn, 1) := by decide +kernel
theorem dL_alter_21 : decode cL_alter 21 = .ok (.astore 6, 2) := by decide +kernel
theorem dL_alter_23 : decode cL_alter 23 = .ok (.iconst 2, 1) := by decide +kernel
theorem dL_alter_24 : decode cL_alter 24 = .ok (.ireturn, 1) := by decide +kernel
theorem dL_alter_25 : decode cL_alter 25 = .ok (.astore 6, 2) := by decide +kernel
theorem dL_alter_27 : decode cL_alter 27 = .ok (.iconst 3, 1) := by decide +kernel
theorem dL_alter_28 : decode cL_alter 28 = .ok (.ireturn, 1) := by decide +kernel
theorem dL_alter_29 : decode cL_alter 29 = .ok (.iconst 0, 1) := by decide +kernel
theorem dL_alter_30 : decode cL_alter 30 = .ok (.ireturn, 1) := by decide +kernel
set_option maxRecDepth 20000 in
theorem ggL_weave_X0_weave : GoodIn wsL_weave wsX0_weave := goodIn_ca (goodIn_ca (goodIn_r _ [7, 8, 9, 10, 11, 12, 13, 14, 15, 16, 17, 18, 19, 20, 21, 22, 23, 24, 25, 26, 27, 28, 29, 30] (by decide +kernel) (by decide +kernel)) (goodIn_sub (fun _ h => List.mem_cons_of_mem _ (List.mem_append_left _ (List.mem_append_right _ h))) (by decide +kernel))) (goodIn_sub (fun _ h => List.mem_cons_of_mem _ (List.mem_append_right _ h)) (by decide +kernel))
set_option maxRecDepth 20000 in
theorem gL_weave_X0_weave : GoodIn wsL_weave (wsV RL 44 RX0 yX0_weave wsX0_weave) := goodIn_app (goodIn_of _ (by decide +kernel)) ggL_weave_X0_weave
theorem dL_weave_0 : decode cL_weave 0 = .ok (.aload_n 3, 1) := by decide +kernel
theorem dL_weave_1 : decode cL_weave 1 = .ok (.iconst 0, 1) := by decide +kernel
theorem dL_weave_2 : decode cL_weave 2 = .ok (.aload_n 0, 1) := by decide +kernel
theorem dL_weave_3 : decode cL_weave 3 = .ok (.iload_n 1, 1) := by decide +kernel
theorem dL_weave_4 : decode cL_weave 4 = .ok (.iload_n 2, 1) := by decide +kernel
theorem dL_weave_5 : decode cL_weave 5 = .ok (.invokevirtual 44, 3) := by decide +kernel
theorem dL_weave_8 : decode cL_weave 8 = .ok (.i2l, 1) := by decide +kernel
theorem dL_weave_9 : decode cL_weave 9 = .ok (.lastore, 1) := by decide +kernel
theorem dL_weave_10 : decode cL_weave 10 = .ok (.goto 11, 3) := by decide +kernel
theorem dL_weave_13 : decode cL_weave 13 = .ok (.astore 4, 2) := by decide +kernel
theorem dL_weave_15 : decode cL_weave 15 = .ok (.iconst 1, 1) := by decide +kernel
theorem dL_weave_16 : decode cL_weave 16 = .ok (.ireturn, 1) := by decide +kernel
theorem dL_weave_17 : decode cL_weave 17 = .ok (.astore 4, 2) := by decide +kernel
theorem dL_weave_19 : decode cL_weave 19 = .ok (.iconst 2, 1) := by decide +kernel
theorem dL_weave_20 : decode cL_weave 20 = .ok (.ireturn, 1) := by decide +kernel
theorem dL_weave_21 : decode cL_weave 21 = .ok (.iconst 0, 1) := by decide +kernel
theorem dL_weave_22 : decode cL_weave 22 = .ok (.ireturn, 1) := by decide +kernel
set_option maxRecDepth 20000 in
theorem ggL_pass_X0_pass : GoodIn wsL_pass wsX0_pass := goodIn_ca (goodIn_ca (goodIn_ca (goodIn_r _ [8, 9, 10, 11, 12, 13, 14, 15, 16, 17, 18, 7, 19, 20, 21, 22, 23, 24, 25, 26, 27, 28, 29, 30, 31, 32, 33, 34, 35, 36, 37, 38, 39, 40, 41, 42, 43, 44, 45, 46, 47, 48, 49, 50, 51, 52, 53, 54, 55, 56, 57, 58, 59, 60, 61, 62, 63, 64, 65, 66, 67, 68, 69, 70, 71, 72, 73, 74, 75, 76, 77, 78, 79, 80, 81] (by decide +kernel) (by decide +kernel)) (goodIn_sub (fun _ h => List.mem_cons_of_mem _ (List.mem_append_left _ (List.mem_append_left _ (List.mem_append_right _ h)))) (by decide +kernel))) (goodIn_sub (fun _ h => List.mem_cons_of_mem _ (List.mem_append_left _ (List.mem_append_right _ h))) (by decide +kernel))) (goodIn_sub (fun _ h => List.mem_cons_of_mem _ (List.mem_append_right _ h)) (by decide +kernel))
set_option maxRecDepth 20000 in
theorem gL_pass_X0_pass : GoodIn wsL_pass (wsV RL 49 RX0 yX0_pass wsX0_pass) := goodIn_app (goodIn_of _ (by decide +kernel)) ggL_pass_X0_pass
theorem dL_pass_0 : decode cL_pass 0 = .ok (.aload_n 3, 1) := by decide +kernel
theorem dL_pass_1 : decode cL_pass 1 = .ok (.iconst 0, 1) := by decide +kernel
theorem dL_pass_2 : decode cL_pass 2 = .ok (.aload_n 0, 1) := by decide +kernel
theorem dL_pass_3 : decode cL_pass 3 = .ok (.iload_n 1, 1) := by decide +kernel
theorem dL_pass_4 : decode cL_pass 4 = .ok (.iload_n 2, 1) := by decide +kernel
theorem dL_pass_5 : decode cL_pass 5 = .ok (.invokevirtual 49, 3) := by decide +kernel
theorem dL_pass_8 : decode cL_pass 8 = .ok (.i2l, 1) := by decide +kernel
theorem dL_pass_9 : decode cL_pass 9 = .ok (.lastore, 1) := by decide +kernel
theorem dL_pass_10 : decode cL_pass 10 = .ok (.goto 15, 3) := by decide +kernel
theorem dL_pass_13 : decode cL_pass 13 = .ok (.astore 4, 2) := by decide +kernel
theorem dL_pass_15 : decode cL_pass 15 = .ok (.iconst 1, 1) := by decide +kernel
theorem dL_pass_16 : decode cL_pass 16 = .ok (.ireturn, 1) := by decide +kernel
theorem dL_pass_17 : decode cL_pass 17 = .ok (.astore 4, 2) := by decide +kernel
theorem dL_pass_19 : decode cL_pass 19 = .ok (.iconst 2, 1) := by decide +kernel
theorem dL_pass_20 : decode cL_pass 20 = .ok (.ireturn, 1) := by decide +kernel
theorem dL_pass_21 : decode cL_pass 21 = .ok (.astore 4, 2) := by decide +kernel
theorem dL_pass_23 : decode cL_pass 23 = .ok (.iconst 3, 1) := by decide +kernel
theorem dL_pass_24 : decode cL_pass 24 = .ok (.ireturn, 1) := by decide +kernel
theorem dL_pass_25 : decode cL_pass 25 = .ok (.iconst 0, 1) := by decide +kernel
theorem dL_pass_26 : decode cL_pass 26 = .ok (.ireturn, 1) := by decide +kernel
set_option maxRecDepth 20000 in
theorem ggL_stop_X0_stop : GoodIn wsL_stop wsX0_stop := goodIn_ca (goodIn_r _ [6, 7, 8, 9, 10, 11, 12, 13, 14, 15, 16, 17, 18, 19, 20, 21, 22] (by decide +kernel) (by decide +kernel)) (goodIn_sub (fun _ h => List.mem_cons_of_mem _ (List.mem_append_right _ h)) (by decide +kernel))
set_option maxRecDepth 20000 in
theorem gL_stop_X0_stop : GoodIn wsL_stop (wsV RL 52 RX0 yX0_stop wsX0_stop) := goodIn_app (goodIn_of _ (by decide +kernel)) ggL_stop_X0_stop
theorem dL_stop_0 : decode cL_stop 0 = .ok (.aload_n 2, 1) := by decide +kernel
theorem dL_stop_1 : decode cL_stop 1 = .ok (.iconst 0, 1) := by decide +kernel
theorem dL_stop_2 : decode cL_stop 2 = .ok (.aload_n 0, 1) := by decide +kernel
theorem dL_stop_3 : decode cL_stop 3 = .ok (.iload_n 1, 1) := by decide +kernel
theorem dL_stop_4 : decode cL_stop 4 = .ok (.invokevirtual 52, 3) := by decide +kernel
theorem dL_stop_7 : decode cL_stop 7 = .ok (.i2l, 1) := by decide +kernel
theorem dL_stop_8 : decode cL_stop 8 = .ok (.lastore, 1) := by decide +kernel
theorem dL_stop_9 : decode cL_stop 9 = .ok (.goto 6, 3) := by decide +kernel
theorem dL_stop_12 : decode cL_stop 12 = .ok (.astore_n 3, 1) := by decide +kernel
theorem dL_stop_13 : decode cL_stop 13 = .ok (.iconst 1, 1) := by decide +kernel
theorem dL_stop_14 : decode cL_stop 14 = .ok (.ireturn, 1) := by decide +kernel
theorem dL_stop_15 : decode cL_stop 15 = .ok (.iconst 0, 1) := by decide +kernel
theorem dL_stop_16 : decode cL_stop 16 = .ok (.ireturn, 1) := by decide +kernel
set_option maxRecDepth 20000 in
theorem ggL_cut_X0_cut : GoodIn wsL_cut wsX0_cut := goodIn_ca (goodIn_ca (goodIn_r _ [7, 8, 9, 10, 11, 12, 6, 13, 14, 15, 16, 17, 18, 19, 20, 21, 22, 23, 24, 25, 26, 27, 28, 29, 30, 31, 32, 33, 34, 35, 36, 37] (by decide +kernel) (by decide +kernel)) (goodIn_sub (fun _ h => List.mem_cons_of_mem _ (List.mem_append_left _ (List.mem_append_right _ h))) (by decide +kernel))) (goodIn_sub (fun _ h => List.mem_cons_of_mem _ (List.mem_append_right _ h)) (by decide +kernel))
set_option maxRecDepth 20000 in
theorem gL_cut_X0_cut : GoodIn wsL_cut (wsV RL 55 RX0 yX0_cut wsX0_cut) := goodIn_app (goodIn_of _ (by decide +kernel)) ggL_cut_X0_cut
theorem dL_cut_0 : decode cL_cut 0 = .ok (.aload_n 2, 1) := by decide +kernel
theorem dL_cut_1 : decode cL_cut 1 = .ok (.iconst 0, 1) := by decide +kernel
theorem dL_cut_2 : decode cL_cut 2 = .ok (.aload_n 0, 1) := by decide +kernel
theorem dL_cut_3 : decode cL_cut 3 = .ok (.iload_n 1, 1) := by decide +kernel
theorem dL_cut_4 : decode cL_cut 4 = .ok (.invokevirtual 55, 3) := by decide +kernel
theorem dL_cut_7 : decode cL_cut 7 = .ok (.i2l, 1) := by decide +kernel
theorem dL_cut_8 : decode cL_cut 8 = .ok (.lastore, 1) := by decide +kernel
theorem dL_cut_9 : decode cL_cut 9 = .ok (.goto 9, 3) := by decide +kernel
theorem dL_cut_12 : decode cL_cut 12 = .ok (.astore_n 3, 1) := by decide +kernel
theorem dL_cut_13 : decode cL_cut 13 = .ok (.iconst 1, 1) := by decide +kernel
theorem dL_cut_14 : decode cL_cut 14 = .ok (.ireturn, 1) := by decide +kernel
theorem dL_cut_15 : decode cL_cut 15 = .ok (.astore_n 3, 1) := by decide +kernel
theorem dL_cut_16 : decode cL_cut 16 = .ok (.iconst 2, 1) := by decide +kernel
theorem dL_cut_17 : decode cL_cut 17 = .ok (.ireturn, 1) := by decide +kernel
theorem dL_cut_18 : decode cL_cut 18 = .ok (.iconst 0, 1) := by decide +kernel
theorem dL_cut_19 : decode cL_cut 19 = .ok (.ireturn, 1) := by decide +kernel
set_option maxRecDepth 20000 in
theorem ggL_cell_X0_cell : GoodIn wsL_cell wsX0_cell := goodIn_ca (goodIn_ca (goodIn_r _ [7, 8, 9, 10, 11, 6, 12, 13, 14, 15, 16, 17, 18, 19, 20, 21, 22, 23, 24, 25, 26, 27, 28, 29, 30, 31, 32, 33, 34, 35, 36, 37, 38, 39, 40, 41, 42, 43, 44, 45] (by decide +kernel) (by decide +kernel)) (goodIn_sub (fun _ h => List.mem_cons_of_mem _ (List.mem_append_left _ (List.mem_append_right _ h))) (by decide +kernel))) (goodIn_sub (fun _ h => List.mem_cons_of_mem _ (List.mem_append_right _ h)) (by decide +kernel))
set_option maxRecDepth 20000 in
theorem gL_cell_X0_cell : GoodIn wsL_cell (wsV RL 58 RX0 yX0_cell wsX0_cell) := goodIn_app (goodIn_of _ (by decide +kernel)) ggL_cell_X0_cell
theorem dL_cell_0 : decode cL_cell 0 = .ok (.aload_n 3, 1) := by decide +kernel
theorem dL_cell_1 : decode cL_cell 1 = .ok (.iconst 0, 1) := by decide +kernel
theorem dL_cell_2 : decode cL_cell 2 = .ok (.aload_n 0, 1) := by decide +kernel
theorem dL_cell_3 : decode cL_cell 3 = .ok (.iload_n 1, 1) := by decide +kernel
theorem dL_cell_4 : decode cL_cell 4 = .ok (.iload_n 2, 1) := by decide +kernel
theorem dL_cell_5 : decode cL_cell 5 = .ok (.invokevirtual 58, 3) := by decide +kernel
theorem dL_cell_8 : decode cL_cell 8 = .ok (.i2l, 1) := by decide +kernel
theorem dL_cell_9 : decode cL_cell 9 = .ok (.lastore, 1) := by decide +kernel
theorem dL_cell_10 : decode cL_cell 10 = .ok (.goto 11, 3) := by decide +kernel
theorem dL_cell_13 : decode cL_cell 13 = .ok (.astore 4, 2) := by decide +kernel
theorem dL_cell_15 : decode cL_cell 15 = .ok (.iconst 1, 1) := by decide +kernel
theorem dL_cell_16 : decode cL_cell 16 = .ok (.ireturn, 1) := by decide +kernel
theorem dL_cell_17 : decode cL_cell 17 = .ok (.astore 4, 2) := by decide +kernel
theorem dL_cell_19 : decode cL_cell 19 = .ok (.iconst 2, 1) := by decide +kernel
theorem dL_cell_20 : decode cL_cell 20 = .ok (.ireturn, 1) := by decide +kernel
theorem dL_cell_21 : decode cL_cell 21 = .ok (.iconst 0, 1) := by decide +kernel
theorem dL_cell_22 : decode cL_cell 22 = .ok (.ireturn, 1) := by decide +kernel
set_option maxRecDepth 20000 in
theorem ggL_dye_X0_dye : GoodIn wsL_dye wsX0_dye := goodIn_ca (goodIn_ca (goodIn_ca (goodIn_r _ [8, 9, 10, 11, 7, 12, 13, 14, 15, 16, 17, 18, 19, 20, 21, 22, 23, 24, 25, 26, 27, 28, 29, 30, 31, 32, 33, 34, 35, 36, 37, 38, 39, 40, 41, 42, 43, 44, 45, 46, 47, 48, 49, 50, 51, 52, 53, 54] (by decide +kernel) (by decide +kernel)) (goodIn_sub (fun _ h => List.mem_cons_of_mem _ (List.mem_append_left _ (List.mem_append_left _ (List.mem_append_right _ h)))) (by decide +kernel))) (goodIn_sub (fun _ h => List.mem_cons_of_mem _ (List.mem_append_left _ (List.mem_append_right _ h))) (by decide +kernel))) (goodIn_sub (fun _ h => List.mem_cons_of_mem _ (List.mem_append_right _ h)) (by decide +kernel))
set_option maxRecDepth 20000 in
theorem gL_dye_X0_dye : GoodIn wsL_dye (wsV RL 61 RX0 yX0_dye wsX0_dye) := goodIn_app (goodIn_of _ (by decide +kernel)) ggL_dye_X0_dye
theorem dL_dye_0 : decode cL_dye 0 = .ok (.aload 5, 2) := by decide +kernel
theorem dL_dye_2 : decode cL_dye 2 = .ok (.iconst 0, 1) := by decide +kernel
theorem dL_dye_3 : decode cL_dye 3 = .ok (.aload_n 0, 1) := by decide +kernel
theorem dL_dye_4 : decode cL_dye 4 = .ok (.iload_n 1, 1) := by decide +kernel
theorem dL_dye_5 : decode cL_dye 5 = .ok (.iload_n 2, 1) := by decide +kernel
theorem dL_dye_6 : decode cL_dye 6 = .ok (.iload_n 3, 1) := by decide +kernel
theorem dL_dye_7 : decode cL_dye 7 = .ok (.iload 4, 2) := by decide +kernel
theorem dL_dye_9 : decode cL_dye 9 = .ok (.invokevirtual 61, 3) := by decide +kernel
theorem dL_dye_12 : decode cL_dye 12 = .ok (.i2l, 1) := by decide +kernel
theorem dL_dye_13 : decode cL_dye 13 = .ok (.lastore, 1) := by decide +kernel
theorem dL_dye_14 : decode cL_dye 14 = .ok (.goto 15, 3) := by decide +kernel
theorem dL_dye_17 : decode cL_dye 17 = .ok (.astore 6, 2) := by decide +kernel
theorem dL_dye_19 : decode cL_dye 19 = .ok (.iconst 1, 1) := by decide +kernel
theorem dL_dye_20 : decode cL_dye 20 = .ok (.ireturn, 1) := by decide +kernel
theorem dL_dye_21 : decode cL_dye 21 = .ok (.astore 6, 2) := by decide +kernel
theorem dL_dye_23 : decode cL_dye 23 = .ok (.iconst 2, 1) := by decide +kernel
theorem dL_dye_24 : decode cL_dye 24 = .ok (.ireturn, 1) := by decide +kernel
theorem dL_dye_25 : decode cL_dye 25 = .ok (.astore 6, 2) := by decide +kernel
theorem dL_dye_27 : decode cL_dye 27 = .ok (.iconst 3, 1) := by decide +kernel
theorem dL_dye_28 : decode cL_dye 28 = .ok (.ireturn, 1) := by decide +kernel
theorem dL_dye_29 : decode cL_dye 29 = .ok (.iconst 0, 1) := by decide +kernel
theorem dL_dye_30 : decode cL_dye 30 = .ok (.ireturn, 1) := by decide +kernel
set_option maxRecDepth 20000 in
theorem ggL_seam_X0_seam : GoodIn wsL_seam wsX0_seam := goodIn_ca (goodIn_ca (goodIn_r _ [7, 8, 9, 10, 11, 12, 6, 13, 14, 15, 16, 17, 18, 19, 20, 21, 22, 23, 24, 25, 26, 27, 28, 29, 30, 31, 32, 33, 34, 35, 36, 37, 38, 39, 40, 41] (by decide +kernel) (by decide +kernel)) (goodIn_sub (fun _ h => List.mem_cons_of_mem _ (List.mem_append_left _ (List.mem_append_right _ h))) (by decide +kernel))) (goodIn_sub (fun _ h => List.mem_cons_of_mem _ (List.mem_append_right _ h)) (by decide +kernel))
set_option maxRecDepth 20000 in
theorem gL_seam_X0_seam : GoodIn wsL_seam (wsV RL 64 RX0 yX0_seam wsX0_seam) := goodIn_app (goodIn_of _ (by decide +kernel)) ggL_seam_X0_seam
theorem dL_seam_0 : decode cL_seam 0 = .ok (.aload_n 3, 1) := by decide +kernel
theorem dL_seam_1 : decode cL_seam 1 = .ok (.iconst 0, 1) := by decide +kernel
theorem dL_seam_2 : decode cL_seam 2 = .ok (.aload_n 0, 1) := by decide +kernel
theorem dL_seam_3 : decode cL_seam 3 = .ok (.iload_n 1, 1) := by decide +kernel
theorem dL_seam_4 : decode cL_seam 4 = .ok (.iload_n 2, 1) := by decide +kernel
theorem dL_seam_5 : decode cL_seam 5 = .ok (.invokevirtual 64, 3) := by decide +kernel
theorem dL_seam_8 : decode cL_seam 8 = .ok (.i2l, 1) := by decide +kernel
theorem dL_seam_9 : decode cL_seam 9 = .ok (.lastore, 1) := by decide +kernel
theorem dL_seam_10 : decode cL_seam 10 = .ok (.goto 11, 3) := by decide +kernel
theorem dL_seam_13 : decode cL_seam 13 = .ok (.astore 4, 2) := by decide +kernel
theorem dL_seam_15 : decode cL_seam 15 = .ok (.iconst 1, 1) := by decide +kernel
theorem dL_seam_16 : decode cL_seam 16 = .ok (.ireturn, 1) := by decide +kernel
theorem dL_seam_17 : decode cL_seam 17 = .ok (.astore 4, 2) := by decide +kernel
theorem dL_seam_19 : decode cL_seam 19 = .ok (.iconst 2, 1) := by decide +kernel
theorem dL_seam_20 : decode cL_seam 20 = .ok (.ireturn, 1) := by decide +kernel
theorem dL_seam_21 : decode cL_seam 21 = .ok (.iconst 0, 1) := by decide +kernel
theorem dL_seam_22 : decode cL_seam 22 = .ok (.ireturn, 1) := by decide +kernel
set_option maxRecDepth 20000 in
theorem ggL_sum_X0_sum : GoodIn wsL_sum wsX0_sum := goodIn_ca (goodIn_r _ [6, 7, 8, 9, 10, 11, 12, 13, 5, 14, 15, 16, 17, 18, 19, 20, 21, 22, 23, 24, 25, 26, 27, 28, 29, 30, 31, 32, 33, 34, 35, 36, 37, 38, 39] (by decide +kernel) (by decide +kernel)) (goodIn_sub (fun _ h => List.mem_cons_of_mem _ (List.mem_append_right _ h)) (by decide +kernel))
set_option maxRecDepth 20000 in
theorem gL_sum_X0_sum : GoodIn wsL_sum (wsV RL 67 RX0 yX0_sum wsX0_sum) := goodIn_app (goodIn_of _ (by decide +kernel)) ggL_sum_X0_sum
theorem dL_sum_0 : decode cL_sum 0 = .ok (.aload_n 2, 1) := by decide +kernel
theorem dL_sum_1 : decode cL_sum 1 = .ok (.iconst 0, 1) := by decide +kernel
theorem dL_sum_2 : decode cL_sum 2 = .ok (.aload_n 0, 1) := by decide +kernel
theorem dL_sum_3 : decode cL_sum 3 = .ok (.iload_n 1, 1) := by decide +kernel
theorem dL_sum_4 : decode cL_sum 4 = .ok (.invokevirtual 67, 3) := by decide +kernel
theorem dL_sum_7 : decode cL_sum 7 = .ok (.i2l, 1) := by decide +kernel
theorem dL_sum_8 : decode cL_sum 8 = .ok (.lastore, 1) := by decide +kernel
theorem dL_sum_9 : decode cL_sum 9 = .ok (.goto 6, 3) := by decide +kernel
theorem dL_sum_12 : decode cL_sum 12 = .ok (.astore_n 3, 1) := by decide +kernel
theorem dL_sum_13 : decode cL_sum 13 = .ok (.iconst 1, 1) := by decide +kernel
theorem dL_sum_14 : decode cL_sum 14 = .ok (.ireturn, 1) := by decide +kernel
theorem dL_sum_15 : decode cL_sum 15 = .ok (.iconst 0, 1) := by decide +kernel
theorem dL_sum_16 : decode cL_sum 16 = .ok (.ireturn, 1) := by decide +kernel
set_option maxRecDepth 20000 in
theorem ggL_law_X0_init : GoodIn wsL_law wsX0_init := goodIn_r _ [9, 10, 11, 12, 13, 14, 15, 16, 17, 18, 19, 20, 21, 22, 23, 24, 25, 26, 27, 28, 29, 395, 396, 397, 398, 399, 400, 401, 402, 403, 404, 405] (by decide +kernel) (by decide +kernel)
set_option maxRecDepth 20000 in
theorem gL_law_X0_init : GoodIn wsL_law (wsX0_init) := ggL_law_X0_init
set_option maxRecDepth 20000 in
theorem ggL_law_X1_init : GoodIn wsL_law wsX1_init := goodIn_r _ [32, 33, 11, 12, 13, 34, 35, 36, 19, 37, 406, 407, 408, 409, 410, 411, 412, 413, 414, 415, 416] (by decide +kernel) (by decide +kernel)
set_option maxRecDepth 20000 in
theorem gL_law_X1_init : GoodIn wsL_law (wsX1_init) := ggL_law_X1_init
set_option maxRecDepth 20000 in
theorem ggL_law_L_mount : GoodIn wsL_law wsL_mount := goodIn_ca (goodIn_r _ [41, 42, 43, 44, 45, 2, 46, 47, 48, 15, 14, 49, 50, 51, 52, 53, 54, 395, 396, 397, 398, 399, 400, 401, 402, 403, 404, 405] (by decide +kernel) (by decide +kernel)) (goodIn_sub (fun _ h => List.mem_append_left _ (List.mem_append_left _ (List.mem_append_left _ (List.mem_append_right _ h)))) (by decide +kernel))
set_option maxRecDepth 20000 in
theorem gL_law_L_mount : GoodIn wsL_law (va_wsS RL 74 yL_mount wsL_mount) := goodIn_app (goodIn_of _ (by decide +kernel)) ggL_law_L_mount
set_option maxRecDepth 20000 in
theorem ggL_law_X1_mount : GoodIn wsL_law wsX1_mount := goodIn_r _ [58, 59, 34, 35, 60, 61, 5, 62, 63, 64, 65, 406, 407, 408, 409, 410, 411, 412, 413, 414, 415, 416] (by decide +kernel) (by decide +kernel)
set_option maxRecDepth 20000 in
theorem gL_law_X1_mount : GoodIn wsL_law (wsV RL 79 RX1 yX1_mount wsX1_mount) := goodIn_app (goodIn_of _ (by decide +kernel)) ggL_law_X1_mount
set_option maxRecDepth 20000 in
theorem ggL_law_X1_thrown : GoodIn wsL_law wsX1_thrown := goodIn_r _ [69, 59, 406, 407, 408, 409, 410, 411, 412, 413, 414, 415, 416] (by decide +kernel) (by decide +kernel)
set_option maxRecDepth 20000 in
theorem gL_law_X1_thrown : GoodIn wsL_law (wsV RL 80 RX1 yX1_thrown wsX1_thrown) := goodIn_app (goodIn_of _ (by decide +kernel)) ggL_law_X1_thrown
set_option maxRecDepth 20000 in
theorem ggL_law_L_off : GoodIn wsL_law wsL_off := goodIn_ca (goodIn_ca (goodIn_r _ [72, 42, 73, 74, 75, 76, 2, 77, 15, 49, 50, 51, 47, 48, 78, 79, 80, 81, 82, 83, 395, 396, 397, 398, 399, 400, 401, 402, 403, 404, 405] (by decide +kernel) (by decide +kernel)) (goodIn_sub (fun _ h => List.mem_append_left _ (List.mem_append_left _ (List.mem_append_left _ (List.mem_append_right _ h)))) (by decide +kernel))) (goodIn_sub (fun _ h => List.mem_append_left _ (List.mem_append_left _ (List.mem_append_right _ h))) (by decide +kernel))
set_option maxRecDepth 20000 in
theorem gL_law_L_off : GoodIn wsL_law (va_wsS RL 84 yL_off wsL_off) := goodIn_app (goodIn_of _ (by decide +kernel)) ggL_law_L_off
set_option maxRecDepth 20000 in
theorem ggL_law_X1_off : GoodIn wsL_law wsX1_off := goodIn_r _ [87, 34, 59, 60, 61, 5, 62, 406, 407, 408, 409, 410, 411, 412, 413, 414, 415, 416] (by decide +kernel) (by decide +kernel)
set_option maxRecDepth 20000 in
theorem gL_law_X1_off : GoodIn wsL_law (wsV RL 87 RX1 yX1_off wsX1_off) := goodIn_app (goodIn_of _ (by decide +kernel)) ggL_law_X1_off
set_option maxRecDepth 20000 in
theorem ggL_law_L_swap : GoodIn wsL_law wsL_swap := goodIn_ca (goodIn_r _ [90, 42, 91, 92, 93, 2, 94, 14, 16, 15, 17, 49, 50, 51, 47, 48, 52, 53, 54, 395, 396, 397, 398, 399, 400, 401, 402, 403, 404, 405] (by decide +kernel) (by decide +kernel)) (goodIn_sub (fun _ h => List.mem_append_left _ (List.mem_append_left _ (List.mem_append_left _ (List.mem_append_right _ h)))) (by decide +kernel))
set_option maxRecDepth 20000 in
theorem gL_law_L_swap : GoodIn wsL_law (va_wsS RL 88 yL_swap wsL_swap) := goodIn_app (goodIn_of _ (by decide +kernel)) ggL_law_L_swap
set_option maxRecDepth 20000 in
theorem ggL_law_X1_swap : GoodIn wsL_law wsX1_swap := goodIn_r _ [98, 59, 35, 34, 60, 61, 5, 62, 63, 64, 65, 406, 407, 408, 409, 410, 411, 412, 413, 414, 415, 416] (by decide +kernel) (by decide +kernel)
set_option maxRecDepth 20000 in
theorem gL_law_X1_swap : GoodIn wsL_law (wsV RL 90 RX1 yX1_swap wsX1_swap) := goodIn_app (goodIn_of _ (by decide +kernel)) ggL_law_X1_swap
set_option maxRecDepth 20000 in
theorem ggL_law_L_copy : GoodIn wsL_law wsL_copy := goodIn_ca (goodIn_ca (goodIn_r _ [101, 42, 73, 102, 103, 104, 2, 105, 15, 16, 14, 17, 49, 50, 51, 47, 48, 78, 79, 80, 81, 82, 83, 52, 53, 54, 395, 396, 397, 398, 399, 400, 401, 402, 403, 404, 405] (by decide +kernel) (by decide +kernel)) (goodIn_sub (fun _ h => List.mem_append_left _ (List.mem_append_left _ (List.mem_append_left _ (List.mem_append_right _ h)))) (by decide +kernel))) (goodIn_sub (fun _ h => List.mem_append_left _ (List.mem_append_left _ (List.mem_append_right _ h))) (by decide +kernel))
set_option maxRecDepth 20000 in
theorem gL_law_L_copy : GoodIn wsL_law (va_wsS RL 91 yL_copy wsL_copy) := goodIn_app (goodIn_of _ (by decide +kernel)) ggL_law_L_copy
set_option maxRecDepth 20000 in
theorem ggL_law_X1_copy : GoodIn wsL_law wsX1_copy := goodIn_r _ [109, 34, 59, 35, 60, 61, 5, 62, 63, 64, 65, 406, 407, 408, 409, 410, 411, 412, 413, 414, 415, 416] (by decide +kernel) (by decide +kernel)
set_option maxRecDepth 20000 in
theorem gL_law_X1_copy : GoodIn wsL_law (wsV RL 93 RX1 yX1_copy wsX1_copy) := goodIn_app (goodIn_of _ (by decide +kernel)) ggL_law_X1_copy
set_option maxRecDepth 20000 in
theorem ggL_law_L_size : GoodIn wsL_law wsL_size := goodIn_ca (goodIn_r _ [112, 42, 113, 114, 115, 2, 116, 17, 15, 49, 50, 51, 47, 48, 395, 396, 397, 398, 399, 400, 401, 402, 403, 404, 405] (by decide +kernel) (by decide +kernel)) (goodIn_sub (fun _ h => List.mem_append_left _ (List.mem_append_left _ (List.mem_append_left _ (List.mem_append_right _ h)))) (by decide +kernel))
set_option maxRecDepth 20000 in
theorem gL_law_L_size : GoodIn wsL_law (va_wsS RL 94 yL_size wsL_size) := goodIn_app (goodIn_of _ (by decide +kernel)) ggL_law_L_size
set_option maxRecDepth 20000 in
theorem ggL_law_X1_size : GoodIn wsL_law wsX1_size := goodIn_r _ [120, 59, 34, 60, 61, 5, 62, 406, 407, 408, 409, 410, 411, 412, 413, 414, 415, 416] (by decide +kernel) (by decide +kernel)
set_option maxRecDepth 20000 in
theorem gL_law_X1_size : GoodIn wsL_law (wsV RL 97 RX1 yX1_size wsX1_size) := goodIn_app (goodIn_of _ (by decide +kernel)) ggL_law_X1_size
set_option maxRecDepth 20000 in
theorem ggL_law_L_get : GoodIn wsL_law wsL_get := goodIn_ca (goodIn_ca (goodIn_ca (goodIn_r _ [123, 42, 73, 124, 125, 126, 127, 2, 128, 14, 49, 50, 51, 47, 48, 78, 79, 80, 81, 82, 83, 15, 129, 130, 131, 132, 133, 134, 52, 53, 54, 395, 396, 397, 398, 399, 400, 401, 402, 403, 404, 405] (by decide +kernel) (by decide +kernel)) (goodIn_sub (fun _ h => List.mem_append_left _ (List.mem_append_left _ (List.mem_append_left _ (List.mem_append_right _ h)))) (by decide +kernel))) (goodIn_sub (fun _ h => List.mem_append_left _ (List.mem_append_left _ (List.mem_append_right _ h))) (by decide +kernel))) (goodIn_sub (fun _ h => List.mem_append_left _ (List.mem_append_right _ h)) (by decide +kernel))
set_option maxRecDepth 20000 in
theorem gL_law_L_get : GoodIn wsL_law (va_wsS RL 98 yL_get wsL_get) := goodIn_app (goodIn_of _ (by decide +kernel)) ggL_law_L_get
set_option maxRecDepth 20000 in
theorem ggL_law_X1_get : GoodIn wsL_law wsX1_get := goodIn_r _ [138, 35, 60, 61, 5, 62, 139, 140, 141, 142, 34, 143, 144, 145, 146, 59, 63, 64, 65, 406, 407, 408, 409, 410, 411, 412, 413, 414, 415, 416] (by decide +kernel) (by decide +kernel)
set_option maxRecDepth 20000 in
theorem gL_law_X1_get : GoodIn wsL_law (wsV RL 100 RX1 yX1_get wsX1_get) := goodIn_app (goodIn_of _ (by decide +kernel)) ggL_law_X1_get
set_option maxRecDepth 20000 in
theorem ggL_law_L_set : GoodIn wsL_law wsL_set := goodIn_ca (goodIn_ca (goodIn_ca (goodIn_r _ [149, 42, 73, 124, 150, 151, 152, 2, 153, 49, 50, 51, 47, 48, 78, 79, 80, 81, 82, 83, 15, 129, 130, 131, 132, 133, 134, 154, 155, 156, 157, 14, 158, 159, 160, 161, 162, 163, 164, 165, 166, 167, 168, 169, 170, 52, 53, 54, 395, 396, 397, 398, 399, 400, 401, 402, 403, 404, 405] (by decide +kernel) (by decide +kernel)) (goodIn_sub (fun _ h => List.mem_append_left _ (List.mem_append_left _ (List.mem_append_left _ (List.mem_append_right _ h)))) (by decide +kernel))) (goodIn_sub (fun _ h => List.mem_append_left _ (List.mem_append_left _ (List.mem_append_right _ h))) (by decide +kernel))) (goodIn_sub (fun _ h => List.mem_append_left _ (List.mem_append_right _ h)) (by decide +kernel))
set_option maxRecDepth 20000 in
theorem gL_law_L_set : GoodIn wsL_law (va_wsS RL 101 yL_set wsL_set) := goodIn_app (goodIn_of _ (by decide +kernel)) ggL_law_L_set
set_option maxRecDepth 20000 in
theorem ggL_law_X1_set : GoodIn wsL_law wsX1_set := goodIn_r _ [174, 60, 61, 5, 62, 139, 140, 141, 142, 34, 143, 144, 145, 146, 59, 175, 176, 177, 178, 35, 63, 64, 65, 179, 180, 181, 182, 183, 184, 185, 186, 187, 188, 189, 406, 407, 408, 409, 410, 411, 412, 413, 414, 415, 416] (by decide +kernel) (by decide +kernel)
set_option maxRecDepth 20000 in
theorem gL_law_X1_set : GoodIn wsL_law (wsV RL 104 RX1 yX1_set wsX1_set) := goodIn_app (goodIn_of _ (by decide +kernel)) ggL_law_X1_set
set_option maxRecDepth 20000 in
theorem ggL_law_L_alter : GoodIn wsL_law wsL_alter := goodIn_ca (goodIn_ca (goodIn_ca (goodIn_r _ [192, 42, 73, 124, 193, 194, 195, 2, 196, 14, 49, 50, 51, 47, 48, 197, 198, 199, 162, 163, 200, 201, 202, 78, 79, 80, 81, 82, 83, 15, 129, 130, 131, 132, 133, 134, 158, 159, 160, 161, 164, 165, 166, 167, 168, 169, 170, 52, 53, 54, 203, 204, 205, 154, 155, 156, 157, 395, 396, 397, 398, 399, 400, 401, 402, 403, 404, 405] (by decide +kernel) (by decide +kernel)) (goodIn_sub (fun _ h => List.mem_append_left _ (List.mem_append_left _ (List.mem_append_left _ (List.mem_append_right _ h)))) (by decide +kernel))) (goodIn_sub (fun _ h => List.mem_append_left _ (List.mem_append_left _ (List.mem_append_right _ h))) (by decide +kernel))) (goodIn_sub (fun _ h => List.mem_append_left _ (List.mem_append_right _ h)) (by decide +kernel))
set_option maxRecDepth 20000 in
theorem gL_law_L_alter : GoodIn wsL_law (va_wsS RL 105 yL_alter wsL_alter) := goodIn_app (goodIn_of _ (by decide +kernel)) ggL_law_L_alter
set_option maxRecDepth 20000 in
theorem ggL_law_X1_alter : GoodIn wsL_law wsX1_alter := goodIn_r _ [209, 35, 210, 211, 5, 212, 185, 186, 60, 61, 62, 213, 214, 215, 139, 140, 141, 142, 34, 143, 144, 145, 146, 59, 179, 180, 181, 182, 183, 184, 187, 188, 189, 63, 64, 65, 216, 217, 218, 175, 176, 177, 178, 406, 407, 408, 409, 410, 411, 412, 413, 414, 415, 416] (by decide +kernel) (by decide +kernel)
set_option maxRecDepth 20000 in
theorem gL_law_X1_alter : GoodIn wsL_law (wsV RL 108 RX1 yX1_alter wsX1_alter) := goodIn_app (goodIn_of _ (by decide +kernel)) ggL_law_X1_alter
set_option maxRecDepth 20000 in
theorem ggL_law_L_weave : GoodIn wsL_law wsL_weave := goodIn_ca (goodIn_ca (goodIn_r _ [221, 222, 42, 223, 224, 225, 2, 226, 227, 228, 47, 48, 21, 22, 18, 20, 26, 27, 28, 29, 395, 396, 397, 398, 399, 400, 401, 402, 403, 404, 405] (by decide +kernel) (by decide +kernel)) (goodIn_sub (fun _ h => List.mem_append_right _ h) (by decide +kernel))) (goodIn_sub (fun _ h => List.mem_append_left _ (List.mem_append_left _ (List.mem_append_left _ (List.mem_append_right _ h)))) (by decide +kernel))
set_option maxRecDepth 20000 in
theorem gL_law_L_weave : GoodIn wsL_law (va_wsS RL 109 yL_weave wsL_weave) := goodIn_app (goodIn_of _ (by decide +kernel)) ggL_law_L_weave
set_option maxRecDepth 20000 in
theorem ggL_law_X1_weave : GoodIn wsL_law wsX1_weave := goodIn_r _ [232, 59, 233, 234, 235, 36, 37, 406, 407, 408, 409, 410, 411, 412, 413, 414, 415, 416] (by decide +kernel) (by decide +kernel)
set_option maxRecDepth 20000 in
theorem gL_law_X1_weave : GoodIn wsL_law (wsV RL 111 RX1 yX1_weave wsX1_weave) := goodIn_app (goodIn_of _ (by decide +kernel)) ggL_law_X1_weave
set_option maxRecDepth 20000 in
theorem ggL_law_L_pass : GoodIn wsL_law wsL_pass := goodIn_ca (goodIn_ca (goodIn_ca (goodIn_r _ [238, 42, 73, 124, 239, 240, 241, 2, 242, 47, 48, 161, 23, 24, 22, 25, 243, 244, 245, 246, 82, 83, 21, 247, 248, 249, 250, 133, 134, 251, 252, 253, 254, 14, 18, 255, 256, 257, 258, 15, 52, 53, 54, 259, 260, 261, 262, 20, 263, 264, 265, 266, 267, 268, 269, 154, 155, 156, 157, 158, 159, 160, 162, 163, 164, 165, 166, 167, 168, 169, 170, 395, 396, 397, 398, 399, 400, 401, 402, 403, 404, 405] (by decide +kernel) (by decide +kernel)) (goodIn_sub (fun _ h => List.mem_append_left _ (List.mem_append_left _ (List.mem_append_left _ (List.mem_append_right _ h)))) (by decide +kernel))) (goodIn_sub (fun _ h => List.mem_append_left _ (List.mem_append_left _ (List.mem_append_right _ h))) (by decide +kernel))) (goodIn_sub (fun _ h => List.mem_append_left _ (List.mem_append_right _ h)) (by decide +kernel))
set_option maxRecDepth 20000 in
theorem gL_law_L_pass : GoodIn wsL_law (va_wsS RL 112 yL_pass wsL_pass) := goodIn_app (goodIn_of _ (by decide +kernel)) ggL_law_L_pass
set_option maxRecDepth 20000 in
theorem ggL_law_X1_pass : GoodIn wsL_law wsX1_pass := goodIn_r _ [273, 182, 233, 59, 274, 275, 235, 276, 277, 278, 279, 5, 280, 234, 281, 282, 283, 284, 35, 37, 36, 285, 286, 287, 288, 139, 140, 141, 142, 34, 289, 290, 291, 292, 63, 64, 65, 175, 176, 177, 178, 179, 180, 181, 183, 184, 185, 186, 187, 188, 189, 406, 407, 408, 409, 410, 411, 412, 413, 414, 415, 416] (by decide +kernel) (by decide +kernel)
set_option maxRecDepth 20000 in
theorem gL_law_X1_pass : GoodIn wsL_law (wsV RL 114 RX1 yX1_pass wsX1_pass) := goodIn_app (goodIn_of _ (by decide +kernel)) ggL_law_X1_pass
set_option maxRecDepth 20000 in
theorem ggL_law_L_stop : GoodIn wsL_law wsL_stop := goodIn_ca (goodIn_r _ [295, 42, 296, 297, 298, 2, 299, 47, 48, 23, 24, 25, 395, 396, 397, 398, 399, 400, 401, 402, 403, 404, 405] (by decide +kernel) (by decide +kernel)) (goodIn_sub (fun _ h => List.mem_append_left _ (List.mem_append_left _ (List.mem_append_left _ (List.mem_append_right _ h)))) (by decide +kernel))
set_option maxRecDepth 20000 in
theorem gL_law_L_stop : GoodIn wsL_law (va_wsS RL 115 yL_stop wsL_stop) := goodIn_app (goodIn_of _ (by decide +kernel)) ggL_law_L_stop
set_option maxRecDepth 20000 in
theorem ggL_law_X1_stop : GoodIn wsL_law wsX1_stop := goodIn_r _ [303, 59, 274, 275, 276, 406, 407, 408, 409, 410, 411, 412, 413, 414, 415, 416] (by decide +kernel) (by decide +kernel)
set_option maxRecDepth 20000 in
theorem gL_law_X1_stop : GoodIn wsL_law (wsV RL 117 RX1 yX1_stop wsX1_stop) := goodIn_app (goodIn_of _ (by decide +kernel)) ggL_law_X1_stop
set_option maxRecDepth 20000 in
theorem ggL_law_L_cut : GoodIn wsL_law wsL_cut := goodIn_ca (goodIn_ca (goodIn_r _ [306, 73, 124, 307, 308, 309, 2, 310, 20, 22, 243, 244, 245, 246, 82, 83, 21, 247, 248, 249, 250, 133, 134, 311, 312, 313, 314, 395, 396, 397, 398, 399, 400, 401, 402, 403, 404, 405] (by decide +kernel) (by decide +kernel)) (goodIn_sub (fun _ h => List.mem_append_left _ (List.mem_append_left _ (List.mem_append_right _ h))) (by decide +kernel))) (goodIn_sub (fun _ h => List.mem_append_left _ (List.mem_append_right _ h)) (by decide +kernel))
set_option maxRecDepth 20000 in
theorem gL_law_L_cut : GoodIn wsL_law (va_wsS RL 118 yL_cut wsL_cut) := goodIn_app (goodIn_of _ (by decide +kernel)) ggL_law_L_cut
set_option maxRecDepth 20000 in
theorem ggL_law_X1_cut : GoodIn wsL_law wsX1_cut := goodIn_r _ [318, 233, 37, 59, 235, 277, 278, 279, 5, 280, 234, 406, 407, 408, 409, 410, 411, 412, 413, 414, 415, 416] (by decide +kernel) (by decide +kernel)
set_option maxRecDepth 20000 in
theorem gL_law_X1_cut : GoodIn wsL_law (wsV RL 120 RX1 yX1_cut wsX1_cut) := goodIn_app (goodIn_of _ (by decide +kernel)) ggL_law_X1_cut
set_option maxRecDepth 20000 in
theorem ggL_law_L_cell : GoodIn wsL_law wsL_cell := goodIn_ca (goodIn_ca (goodIn_r _ [321, 73, 124, 322, 323, 324, 2, 325, 18, 326, 327, 328, 329, 133, 134, 22, 243, 244, 245, 246, 82, 83, 21, 247, 248, 249, 250, 311, 312, 313, 314, 20, 263, 264, 265, 395, 396, 397, 398, 399, 400, 401, 402, 403, 404, 405] (by decide +kernel) (by decide +kernel)) (goodIn_sub (fun _ h => List.mem_append_left _ (List.mem_append_right _ h)) (by decide +kernel))) (goodIn_sub (fun _ h => List.mem_append_left _ (List.mem_append_left _ (List.mem_append_right _ h))) (by decide +kernel))
set_option maxRecDepth 20000 in
theorem gL_law_L_cell : GoodIn wsL_law (va_wsS RL 121 yL_cell wsL_cell) := goodIn_app (goodIn_of _ (by decide +kernel)) ggL_law_L_cell
set_option maxRecDepth 20000 in
theorem ggL_law_X1_cell : GoodIn wsL_law wsX1_cell := goodIn_r _ [333, 59, 36, 334, 335, 336, 5, 337, 233, 37, 277, 278, 279, 280, 234, 338, 339, 340, 341, 235, 406, 407, 408, 409, 410, 411, 412, 413, 414, 415, 416] (by decide +kernel) (by decide +kernel)
set_option maxRecDepth 20000 in
theorem gL_law_X1_cell : GoodIn wsL_law (wsV RL 123 RX1 yX1_cell wsX1_cell) := goodIn_app (goodIn_of _ (by decide +kernel)) ggL_law_X1_cell
set_option maxRecDepth 20000 in
theorem ggL_law_L_dye : GoodIn wsL_law wsL_dye := goodIn_ca (goodIn_ca (goodIn_ca (goodIn_r _ [344, 42, 73, 124, 345, 346, 347, 2, 348, 18, 200, 201, 202, 47, 48, 326, 327, 328, 329, 133, 134, 22, 243, 244, 245, 246, 82, 83, 21, 247, 248, 249, 250, 311, 312, 313, 314, 20, 263, 264, 265, 203, 204, 205, 395, 396, 397, 398, 399, 400, 401, 402, 403, 404, 405] (by decide +kernel) (by decide +kernel)) (goodIn_sub (fun _ h => List.mem_append_left _ (List.mem_append_left _ (List.mem_append_left _ (List.mem_append_right _ h)))) (by decide +kernel))) (goodIn_sub (fun _ h => List.mem_append_left _ (List.mem_append_right _ h)) (by decide +kernel))) (goodIn_sub (fun _ h => List.mem_append_left _ (List.mem_append_left _ (List.mem_append_right _ h))) (by decide +kernel))
set_option maxRecDepth 20000 in
theorem gL_law_L_dye : GoodIn wsL_law (va_wsS RL 124 yL_dye wsL_dye) := goodIn_app (goodIn_of _ (by decide +kernel)) ggL_law_L_dye
set_option maxRecDepth 20000 in
theorem ggL_law_X1_dye : GoodIn wsL_law wsX1_dye := goodIn_r _ [352, 36, 213, 214, 5, 215, 334, 335, 336, 337, 233, 37, 277, 278, 279, 280, 234, 338, 339, 340, 341, 235, 143, 144, 145, 146, 59, 216, 217, 218, 406, 407, 408, 409, 410, 411, 412, 413, 414, 415, 416] (by decide +kernel) (by decide +kernel)
set_option maxRecDepth 20000 in
theorem gL_law_X1_dye : GoodIn wsL_law (wsV RL 126 RX1 yX1_dye wsX1_dye) := goodIn_app (goodIn_of _ (by decide +kernel)) ggL_law_X1_dye
set_option maxRecDepth 20000 in
theorem ggL_law_L_seam : GoodIn wsL_law wsL_seam := goodIn_ca (goodIn_ca (goodIn_r _ [355, 73, 124, 356, 357, 358, 2, 359, 22, 18, 243, 244, 245, 246, 82, 83, 21, 247, 248, 249, 250, 133, 134, 311, 312, 313, 314, 20, 263, 264, 265, 395, 396, 397, 398, 399, 400, 401, 402, 403, 404, 405] (by decide +kernel) (by decide +kernel)) (goodIn_sub (fun _ h => List.mem_append_left _ (List.mem_append_left _ (List.mem_append_right _ h))) (by decide +kernel))) (goodIn_sub (fun _ h => List.mem_append_left _ (List.mem_append_right _ h)) (by decide +kernel))
set_option maxRecDepth 20000 in
theorem gL_law_L_seam : GoodIn wsL_law (va_wsS RL 127 yL_seam wsL_seam) := goodIn_app (goodIn_of _ (by decide +kernel)) ggL_law_L_seam
set_option maxRecDepth 20000 in
theorem ggL_law_X1_seam : GoodIn wsL_law wsX1_seam := goodIn_r _ [363, 233, 59, 235, 36, 364, 365, 366, 5, 367, 37, 277, 278, 279, 280, 234, 406, 407, 408, 409, 410, 411, 412, 413, 414, 415, 416] (by decide +kernel) (by decide +kernel)
set_option maxRecDepth 20000 in
theorem gL_law_X1_seam : GoodIn wsL_law (wsV RL 129 RX1 yX1_seam wsX1_seam) := goodIn_app (goodIn_of _ (by decide +kernel)) ggL_law_X1_seam
set_option maxRecDepth 20000 in
theorem ggL_law_L_sum : GoodIn wsL_law wsL_sum := goodIn_ca (goodIn_r _ [370, 42, 371, 372, 373, 2, 374, 47, 48, 21, 22, 375, 376, 377, 378, 15, 14, 52, 53, 54, 379, 380, 381, 382, 383, 384, 385, 386, 20, 395, 396, 397, 398, 399, 400, 401, 402, 403, 404, 405] (by decide +kernel) (by decide +kernel)) (goodIn_sub (fun _ h => List.mem_append_left _ (List.mem_append_left _ (List.mem_append_left _ (List.mem_append_right _ h)))) (by decide +kernel))
set_option maxRecDepth 20000 in
theorem gL_law_L_sum : GoodIn wsL_law (va_wsS RL 130 yL_sum wsL_sum) := goodIn_app (goodIn_of _ (by decide +kernel)) ggL_law_L_sum
set_option maxRecDepth 20000 in
theorem ggL_law_X1_sum : GoodIn wsL_law wsX1_sum := goodIn_r _ [390, 59, 34, 233, 234, 235, 37, 391, 392, 393, 5, 394, 35, 63, 64, 65, 406, 407, 408, 409, 410, 411, 412, 413, 414, 415, 416] (by decide +kernel) (by decide +kernel)
set_option maxRecDepth 20000 in
theorem gL_law_X1_sum : GoodIn wsL_law (wsV RL 132 RX1 yX1_sum wsX1_sum) := goodIn_app (goodIn_of _ (by decide +kernel)) ggL_law_X1_sum
theorem dL_law_0 : decode cL_law 0 = .ok (.new 8, 3) := by decide +kernel
theorem dL_law_3 : decode cL_law 3 = .ok (.dup, 1) := by decide +kernel
theorem dL_law_4 : decode cL_law 4 = .ok (.invokespecial 70, 3) := by decide +kernel
theorem dL_law_7 : decode cL_law 7 = .ok (.astore_n 1, 1) := by decide +kernel
theorem dL_law_8 : decode cL_law 8 = .ok (.new 71, 3) := by decide +kernel
theorem dL_law_11 : decode cL_law 11 = .ok (.dup, 1) := by decide +kernel
theorem dL_law_12 : decode cL_law 12 = .ok (.invokespecial 73, 3) := by decide +kernel
theorem dL_law_15 : decode cL_law 15 = .ok (.astore_n 2, 1) := by decide +kernel
theorem dL_law_16 : decode cL_law 16 = .ok (.iconst 1, 1) := by decide +kernel
theorem dL_law_17 : decode cL_law 17 = .ok (.newarray .long, 2) := by decide +kernel
theorem dL_law_19 : decode cL_law 19 = .ok (.astore_n 3, 1) := by decide +kernel
theorem dL_law_20 : decode cL_law 20 = .ok (.iconst 0, 1) := by decide +kernel
theorem dL_law_21 : decode cL_law 21 = .ok (.istore 4, 2) := by decide +kernel
theorem dL_law_23 : decode cL_law 23 = .ok (.iload 4, 2) := by decide +kernel
theorem dL_law_25 : decode cL_law 25 = .ok (.aload_n 0, 1) := by decide +kernel
theorem dL_law_26 : decode cL_law 26 = .ok (.arraylength, 1) := by decide +kernel
theorem dL_law_27 : decode cL_law 27 = .ok (.iconst 5, 1) := by decide +kernel
theorem dL_law_28 : decode cL_law 28 = .ok (.isub, 1) := by decide +kernel
theorem dL_law_29 : decode cL_law 29 = .ok (.if_icmp .gt 1185, 3) := by decide +kernel
theorem dL_law_32 : decode cL_law 32 = .ok (.aload_n 0, 1) := by decide +kernel
theorem dL_law_33 : decode cL_law 33 = .ok (.iload 4, 2) := by decide +kernel
theorem dL_law_35 : decode cL_law 35 = .ok (.iaload, 1) := by decide +kernel
theorem dL_law_36 : decode cL_law 36 = .ok (.bipush 15, 2) := by decide +kernel
theorem dL_law_38 : decode cL_law 38 = .ok (.iand, 1) := by decide +kernel
theorem dL_law_39 : decode cL_law 39 = .ok (.tableswitch 1169 0 15 #[77, 145, 201, 257, 313, 397, 465, 545, 637, 705, 773, 829, 885, 953, 1045, 1113], 77) := by decide +kernel
theorem dL_law_116 : decode cL_law 116 = .ok (.aload_n 1, 1) := by decide +kernel
theorem dL_law_117 : decode cL_law 117 = .ok (.aload_n 0, 1) := by decide +kernel
theorem dL_law_118 : decode cL_law 118 = .ok (.iload 4, 2) := by decide +kernel
theorem dL_law_120 : decode cL_law 120 = .ok (.iconst 1, 1) := by decide +kernel
theorem dL_law_121 : decode cL_law 121 = .ok (.iadd, 1) := by decide +kernel
theorem dL_law_122 : decode cL_law 122 = .ok (.iaload, 1) := by decide +kernel
theorem dL_law_123 : decode cL_law 123 = .ok (.aload_n 0, 1) := by decide +kernel
theorem dL_law_124 : decode cL_law 124 = .ok (.iload 4, 2) := by decide +kernel
theorem dL_law_126 : decode cL_law 126 = .ok (.iconst 2, 1) := by decide +kernel
theorem dL_law_127 : decode cL_law 127 = .ok (.iadd, 1) := by decide +kernel
theorem dL_law_128 : decode cL_law 128 = .ok (.iaload, 1) := by decide +kernel
theorem dL_law_129 : decode cL_law 129 = .ok (.aload_n 3, 1) := by decide +kernel
theorem dL_law_130 : decode cL_law 130 = .ok (.invokestatic 74, 3) := by decide +kernel
theorem dL_law_133 : decode cL_law 133 = .ok (.istore 5, 2) := by decide +kernel
theorem dL_law_135 : decode cL_law 135 = .ok (.aload_n 2, 1) := by decide +kernel
theorem dL_law_136 : decode cL_law 136 = .ok (.aload_n 0, 1) := by decide +kernel
theorem dL_law_137 : decode cL_law 137 = .ok (.iload 4, 2) := by decide +kernel
theorem dL_law_139 : decode cL_law 139 = .ok (.iconst 1, 1) := by decide +kernel
theorem dL_law_140 : decode cL_law 140 = .ok (.iadd, 1) := by decide +kernel
theorem dL_law_141 : decode cL_law 141 = .ok (.iaload, 1) := by decide +kernel
theorem dL_law_142 : decode cL_law 142 = .ok (.aload_n 0, 1) := by decide +kernel
theorem dL_law_143 : decode cL_law 143 = .ok (.iload 4, 2) := by decide +kernel
theorem dL_law_145 : decode cL_law 145 = .ok (.iconst 2, 1) := by decide +kernel
theorem dL_law_146 : decode cL_law 146 = .ok (.iadd, 1) := by decide +kernel
theorem dL_law_147 : decode cL_law 147 = .ok (.iaload, 1) := by decide +kernel
theorem dL_law_148 : decode cL_law 148 = .ok (.invokevirtual 79, 3) := by decide +kernel
theorem dL_law_151 : decode cL_law 151 = .ok (.istore 6, 2) := by decide +kernel
theorem dL_law_153 : decode cL_law 153 = .ok (.aload_n 2, 1) := by decide +kernel
theorem dL_law_154 : decode cL_law 154 = .ok (.invokevirtual 80, 3) := by decide +kernel
theorem dL_law_157 : decode cL_law 157 = .ok (.iload 5, 2) := by decide +kernel
theorem dL_law_159 : decode cL_law 159 = .ok (.if_icmp .eq 5, 3) := by decide +kernel
theorem dL_law_162 : decode cL_law 162 = .ok (.iconst 0, 1) := by decide +kernel
theorem dL_law_163 : decode cL_law 163 = .ok (.ireturn, 1) := by decide +kernel
theorem dL_law_164 : decode cL_law 164 = .ok (.iload 5, 2) := by decide +kernel
theorem dL_law_166 : decode cL_law 166 = .ok (.ifCond .ne 15, 3) := by decide +kernel
theorem dL_law_169 : decode cL_law 169 = .ok (.aload_n 3, 1) := by decide +kernel
theorem dL_law_170 : decode cL_law 170 = .ok (.iconst 0, 1) := by decide +kernel
theorem dL_law_171 : decode cL_law 171 = .ok (.laload, 1) := by decide +kernel
theorem dL_law_172 : decode cL_law 172 = .ok (.iload 6, 2) := by decide +kernel
theorem dL_law_174 : decode cL_law 174 = .ok (.i2l, 1) := by decide +kernel
theorem dL_law_175 : decode cL_law 175 = .ok (.lcmp, 1) := by decide +kernel
theorem dL_law_176 : decode cL_law 176 = .ok (.ifCond .eq 5, 3) := by decide +kernel
theorem dL_law_179 : decode cL_law 179 = .ok (.iconst 0, 1) := by decide +kernel
theorem dL_law_180 : decode cL_law 180 = .ok (.ireturn, 1) := by decide +kernel
theorem dL_law_181 : decode cL_law 181 = .ok (.goto 1027, 3) := by decide +kernel
theorem dL_law_184 : decode cL_law 184 = .ok (.aload_n 1, 1) := by decide +kernel
theorem dL_law_185 : decode cL_law 185 = .ok (.aload_n 0, 1) := by decide +kernel
theorem dL_law_186 : decode cL_law 186 = .ok (.iload 4, 2) := by decide +kernel
theorem dL_law_188 : decode cL_law 188 = .ok (.iconst 1, 1) := by decide +kernel
theorem dL_law_189 : decode cL_law 189 = .ok (.iadd, 1) := by decide +kernel
theorem dL_law_190 : decode cL_law 190 = .ok (.iaload, 1) := by decide +kernel
theorem dL_law_191 : decode cL_law 191 = .ok (.aload_n 3, 1) := by decide +kernel
theorem dL_law_192 : decode cL_law 192 = .ok (.invokestatic 84, 3) := by decide +kernel
theorem dL_law_195 : decode cL_law 195 = .ok (.istore 5, 2) := by decide +kernel
theorem dL_law_197 : decode cL_law 197 = .ok (.aload_n 2, 1) := by decide +kernel
theorem dL_law_198 : decode cL_law 198 = .ok (.aload_n 0, 1) := by decide +kernel
theorem dL_law_199 : decode cL_law 199 = .ok (.iload 4, 2) := by decide +kernel
theorem dL_law_201 : decode cL_law 201 = .ok (.iconst 1, 1) := by decide +kernel
theorem dL_law_202 : decode cL_law 202 = .ok (.iadd, 1) := by decide +kernel
theorem dL_law_203 : decode cL_law 203 = .ok (.iaload, 1) := by decide +kernel
theorem dL_law_204 : decode cL_law 204 = .ok (.invokevirtual 87, 3) := by decide +kernel
theorem dL_law_207 : decode cL_law 207 = .ok (.istore 6, 2) := by decide +kernel
theorem dL_law_209 : decode cL_law 209 = .ok (.aload_n 2, 1) := by decide +kernel
theorem dL_law_210 : decode cL_law 210 = .ok (.invokevirtual 80, 3) := by decide +kernel
theorem dL_law_213 : decode cL_law 213 = .ok (.iload 5, 2) := by decide +kernel
theorem dL_law_215 : decode cL_law 215 = .ok (.if_icmp .eq 5, 3) := by decide +kernel
theorem dL_law_218 : decode cL_law 218 = .ok (.iconst 0, 1) := by decide +kernel
theorem dL_law_219 : decode cL_law 219 = .ok (.ireturn, 1) := by decide +kernel
theorem dL_law_220 : decode cL_law 220 = .ok (.iload 5, 2) := by decide +kernel
theorem dL_law_222 : decode cL_law 222 = .ok (.ifCond .ne 15, 3) := by decide +kernel
theorem dL_law_225 : decode cL_law 225 = .ok (.aload_n 3, 1) := by decide +kernel
theorem dL_law_226 : decode cL_law 226 = .ok (.iconst 0, 1) := by decide +kernel
theorem dL_law_227 : decode cL_law 227 = .ok (.laload, 1) := by decide +kernel
theorem dL_law_228 : decode cL_law 228 = .ok (.iload 6, 2) := by decide +kernel
theorem dL_law_230 : decode cL_law 230 = .ok (.i2l, 1) := by decide +kernel
theorem dL_law_231 : decode cL_law 231 = .ok (.lcmp, 1) := by decide +kernel
theorem dL_law_232 : decode cL_law 232 = .ok (.ifCond .eq 5, 3) := by decide +kernel
theorem dL_law_235 : decode cL_law 235 = .ok (.iconst 0, 1) := by decide +kernel
theorem dL_law_236 : decode cL_law 236 = .ok (.ireturn, 1) := by decide +kernel
theorem dL_law_237 : decode cL_law 237 = .ok (.goto 971, 3) := by decide +kernel
theorem dL_law_240 : decode cL_law 240 = .ok (.aload_n 1, 1) := by decide +kernel
theorem dL_law_241 : decode cL_law 241 = .ok (.aload_n 0, 1) := by decide +kernel
theorem dL_law_242 : decode cL_law 242 = .ok (.iload 4, 2) := by decide +kernel
theorem dL_law_244 : decode cL_law 244 = .ok (.iconst 1, 1) := by decide +kernel
theorem dL_law_245 : decode cL_law 245 = .ok (.iadd, 1) := by decide +kernel
theorem dL_law_246 : decode cL_law 246 = .ok (.iaload, 1) := by decide +kernel
theorem dL_law_247 : decode cL_law 247 = .ok (.aload_n 3, 1) := by decide +kernel
theorem dL_law_248 : decode cL_law 248 = .ok (.invokestatic 88, 3) := by decide +kernel
theorem dL_law_251 : decode cL_law 251 = .ok (.istore 5, 2) := by decide +kernel
theorem dL_law_253 : decode cL_law 253 = .ok (.aload_n 2, 1) := by decide +kernel
theorem dL_law_254 : decode cL_law 254 = .ok (.aload_n 0, 1) := by decide +kernel
theorem dL_law_255 : decode cL_law 255 = .ok (.iload 4, 2) := by decide +kernel
theorem dL_law_257 : decode cL_law 257 = .ok (.iconst 1, 1) := by decide +kernel
theorem dL_law_258 : decode cL_law 258 = .ok (.iadd, 1) := by decide +kernel
theorem dL_law_259 : decode cL_law 259 = .ok (.iaload, 1) := by decide +kernel
theorem dL_law_260 : decode cL_law 260 = .ok (.invokevirtual 90, 3) := by decide +kernel
theorem dL_law_263 : decode cL_law 263 = .ok (.istore 6, 2) := by decide +kernel
theorem dL_law_265 : decode cL_law 265 = .ok (.aload_n 2, 1) := by decide +kernel
theorem dL_law_266 : decode cL_law 266 = .ok (.invokevirtual 80, 3) := by decide +kernel
theorem dL_law_269 : decode cL_law 269 = .ok (.iload 5, 2) := by decide +kernel
theorem dL_law_271 : decode cL_law 271 = .ok (.if_icmp .eq 5, 3) := by decide +kernel
theorem dL_law_274 : decode cL_law 274 = .ok (.iconst 0, 1) := by decide +kernel
theorem dL_law_275 : decode cL_law 275 = .ok (.ireturn, 1) := by decide +kernel
theorem dL_law_276 : decode cL_law 276 = .ok (.iload 5, 2) := by decide +kernel
theorem dL_law_278 : decode cL_law 278 = .ok (.ifCond .ne 15, 3) := by decide +kernel
theorem dL_law_281 : decode cL_law 281 = .ok (.aload_n 3, 1) := by decide +kernel
theorem dL_law_282 : decode cL_law 282 = .ok (.iconst 0, 1) := by decide +kernel
theorem dL_law_283 : decode cL_law 283 = .ok (.laload, 1) := by decide +kernel
theorem dL_law_284 : decode cL_law 284 = .ok (.iload 6, 2) := by decide +kernel
theorem dL_law_286 : decode cL_law 286 = .ok (.i2l, 1) := by decide +kernel
theorem dL_law_287 : decode cL_law 287 = .ok (.lcmp, 1) := by decide +kernel
theorem dL_law_288 : decode cL_law 288 = .ok (.ifCond .eq 5, 3) := by decide +kernel
theorem dL_law_291 : decode cL_law 291 = .ok (.iconst 0, 1) := by decide +kernel
theorem dL_law_292 : decode cL_law 292 = .ok (.ireturn, 1) := by decide +kernel
theorem dL_law_293 : decode cL_law 293 = .ok (.goto 915, 3) := by decide +kernel
theorem dL_law_296 : decode cL_law 296 = .ok (.aload_n 1, 1) := by decide +kernel
theorem dL_law_297 : decode cL_law 297 = .ok (.aload_n 0, 1) := by decide +kernel
theorem dL_law_298 : decode cL_law 298 = .ok (.iload 4, 2) := by decide +kernel
theorem dL_law_300 : decode cL_law 300 = .ok (.iconst 1, 1) := by decide +kernel
theorem dL_law_301 : decode cL_law 301 = .ok (.iadd, 1) := by decide +kernel
theorem dL_law_302 : decode cL_law 302 = .ok (.iaload, 1) := by decide +kernel
theorem dL_law_303 : decode cL_law 303 = .ok (.aload_n 3, 1) := by decide +kernel
theorem dL_law_304 : decode cL_law 304 = .ok (.invokestatic 91, 3) := by decide +kernel
theorem dL_law_307 : decode cL_law 307 = .ok (.istore 5, 2) := by decide +kernel
theorem dL_law_309 : decode cL_law 309 = .ok (.aload_n 2, 1) := by decide +kernel
theorem dL_law_310 : decode cL_law 310 = .ok (.aload_n 0, 1) := by decide +kernel
theorem dL_law_311 : decode cL_law 311 = .ok (.iload 4, 2) := by decide +kernel
theorem dL_law_313 : decode cL_law 313 = .ok (.iconst 1, 1) := by decide +kernel
theorem dL_law_314 : decode cL_law 314 = .ok (.iadd, 1) := by decide +kernel
theorem dL_law_315 : decode cL_law 315 = .ok (.iaload, 1) := by decide +kernel
theorem dL_law_316 : decode cL_law 316 = .ok (.invokevirtual 93, 3) := by decide +kernel
theorem dL_law_319 : decode cL_law 319 = .ok (.istore 6, 2) := by decide +kernel
theorem dL_law_321 : decode cL_law 321 = .ok (.aload_n 2, 1) := by decide +kernel
theorem dL_law_322 : decode cL_law 322 = .ok (.invokevirtual 80, 3) := by decide +kernel
theorem dL_law_325 : decode cL_law 325 = .ok (.iload 5, 2) := by decide +kernel
theorem dL_law_327 : decode cL_law 327 = .ok (.if_icmp .eq 5, 3) := by decide +kernel
theorem dL_law_330 : decode cL_law 330 = .ok (.iconst 0, 1) := by decide +kernel
theorem dL_law_331 : decode cL_law 331 = .ok (.ireturn, 1) := by decide +kernel
theorem dL_law_332 : decode cL_law 332 = .ok (.iload 5, 2) := by decide +kernel
theorem dL_law_334 : decode cL_law 334 = .ok (.ifCond .ne 15, 3) := by decide +kernel
theorem dL_law_337 : decode cL_law 337 = .ok (.aload_n 3, 1) := by decide +kernel
theorem dL_law_338 : decode cL_law 338 = .ok (.iconst 0, 1) := by decide +kernel
theorem dL_law_339 : decode cL_law 339 = .ok (.laload, 1) := by decide +kernel
theorem dL_law_340 : decode cL_law 340 = .ok (.iload 6, 2) := by decide +kernel
theorem dL_law_342 : decode cL_law 342 = .ok (.i2l, 1) := by decide +kernel
theorem dL_law_343 : decode cL_law 343 = .ok (.lcmp, 1) := by decide +kernel
theorem dL_law_344 : decode cL_law 344 = .ok (.ifCond .eq 5, 3) := by decide +kernel
theorem dL_law_347 : decode cL_law 347 = .ok (.iconst 0, 1) := by decide +kernel
theorem dL_law_348 : decode cL_law 348 = .ok (.ireturn, 1) := by decide +kernel
theorem dL_law_349 : decode cL_law 349 = .ok (.goto 859, 3) := by decide +kernel
theorem dL_law_352 : decode cL_law 352 = .ok (.aload_n 1, 1) := by decide +kernel
theorem dL_law_353 : decode cL_law 353 = .ok (.aload_n 0, 1) := by decide +kernel
theorem dL_law_354 : decode cL_law 354 = .ok (.iload 4, 2) := by decide +kernel
theorem dL_law_356 : decode cL_law 356 = .ok (.iconst 1, 1) := by decide +kernel
theorem dL_law_357 : decode cL_law 357 = .ok (.iadd, 1) := by decide +kernel
theorem dL_law_358 : decode cL_law 358 = .ok (.iaload, 1) := by decide +kernel
theorem dL_law_359 : decode cL_law 359 = .ok (.aload_n 0, 1) := by decide +kernel
theorem dL_law_360 : decode cL_law 360 = .ok (.iload 4, 2) := by decide +kernel
theorem dL_law_362 : decode cL_law 362 = .ok (.iconst 2, 1) := by decide +kernel
theorem dL_law_363 : decode cL_law 363 = .ok (.iadd, 1) := by decide +kernel
theorem dL_law_364 : decode cL_law 364 = .ok (.iaload, 1) := by decide +kernel
theorem dL_law_365 : decode cL_law 365 = .ok (.ifCond .eq 7, 3) := by decide +kernel
theorem dL_law_368 : decode cL_law 368 = .ok (.iconst 1, 1) := by decide +kernel
theorem dL_law_369 : decode cL_law 369 = .ok (.goto 4, 3) := by decide +kernel
theorem dL_law_372 : decode cL_law 372 = .ok (.iconst 0, 1) := by decide +kernel
theorem dL_law_373 : decode cL_law 373 = .ok (.aload_n 3, 1) := by decide +kernel
theorem dL_law_374 : decode cL_law 374 = .ok (.invokestatic 94, 3) := by decide +kernel
theorem dL_law_377 : decode cL_law 377 = .ok (.istore 5, 2) := by decide +kernel
theorem dL_law_379 : decode cL_law 379 = .ok (.aload_n 2, 1) := by decide +kernel
theorem dL_law_380 : decode cL_law 380 = .ok (.aload_n 0, 1) := by decide +kernel
theorem dL_law_381 : decode cL_law 381 = .ok (.iload 4, 2) := by decide +kernel
theorem dL_law_383 : decode cL_law 383 = .ok (.iconst 1, 1) := by decide +kernel
theorem dL_law_384 : decode cL_law 384 = .ok (.iadd, 1) := by decide +kernel
theorem dL_law_385 : decode cL_law 385 = .ok (.iaload, 1) := by decide +kernel
theorem dL_law_386 : decode cL_law 386 = .ok (.aload_n 0, 1) := by decide +kernel
theorem dL_law_387 : decode cL_law 387 = .ok (.iload 4, 2) := by decide +kernel
theorem dL_law_389 : decode cL_law 389 = .ok (.iconst 2, 1) := by decide +kernel
theorem dL_law_390 : decode cL_law 390 = .ok (.iadd, 1) := by decide +kernel
theorem dL_law_391 : decode cL_law 391 = .ok (.iaload, 1) := by decide +kernel
theorem dL_law_392 : decode cL_law 392 = .ok (.ifCond .eq 7, 3) := by decide +kernel
theorem dL_law_395 : decode cL_law 395 = .ok (.iconst 1, 1) := by decide +kernel
theorem dL_law_396 : decode cL_law 396 = .ok (.goto 4, 3) := by decide +kernel
theorem dL_law_399 : decode cL_law 399 = .ok (.iconst 0, 1) := by decide +kernel
theorem dL_law_400 : decode cL_law 400 = .ok (.invokevirtual 97, 3) := by decide +kernel
theorem dL_law_403 : decode cL_law 403 = .ok (.istore 6, 2) := by decide +kernel
theorem dL_law_405 : decode cL_law 405 = .ok (.aload_n 2, 1) := by decide +kernel
theorem dL_law_406 : decode cL_law 406 = .ok (.invokevirtual 80, 3) := by decide +kernel
theorem dL_law_409 : decode cL_law 409 = .ok (.iload 5, 2) := by decide +kernel
theorem dL_law_411 : decode cL_law 411 = .ok (.if_icmp .eq 5, 3) := by decide +kernel
theorem dL_law_414 : decode cL_law 414 = .ok (.iconst 0, 1) := by decide +kernel
theorem dL_law_415 : decode cL_law 415 = .ok (.ireturn, 1) := by decide +kernel
theorem dL_law_416 : decode cL_law 416 = .ok (.iload 5, 2) := by decide +kernel
theorem dL_law_418 : decode cL_law 418 = .ok (.ifCond .ne 15, 3) := by decide +kernel
theorem dL_law_421 : decode cL_law 421 = .ok (.aload_n 3, 1) := by decide +kernel
theorem dL_law_422 : decode cL_law 422 = .ok (.iconst 0, 1) := by decide +kernel
theorem dL_law_423 : decode cL_law 423 = .ok (.laload, 1) := by decide +kernel
theorem dL_law_424 : decode cL_law 424 = .ok (.iload 6, 2) := by decide +kernel
theorem dL_law_426 : decode cL_law 426 = .ok (.i2l, 1) := by decide +kernel
theorem dL_law_427 : decode cL_law 427 = .ok (.lcmp, 1) := by decide +kernel
theorem dL_law_428 : decode cL_law 428 = .ok (.ifCond .eq 5, 3) := by decide +kernel
theorem dL_law_431 : decode cL_law 431 = .ok (.iconst 0, 1) := by decide +kernel
theorem dL_law_432 : decode cL_law 432 = .ok (.ireturn, 1) := by decide +kernel
theorem dL_law_433 : decode cL_law 433 = .ok (.goto 775, 3) := by decide +kernel
theorem dL_law_436 : decode cL_law 436 = .ok (.aload_n 1, 1) := by decide +kernel
theorem dL_law_437 : decode cL_law 437 = .ok (.aload_n 0, 1) := by decide +kernel
theorem dL_law_438 : decode cL_law 438 = .ok (.iload 4, 2) := by decide +kernel
theorem dL_law_440 : decode cL_law 440 = .ok (.iconst 1, 1) := by decide +kernel
theorem dL_law_441 : decode cL_law 441 = .ok (.iadd, 1) := by decide +kernel
theorem dL_law_442 : decode cL_law 442 = .ok (.iaload, 1) := by decide +kernel
theorem dL_law_443 : decode cL_law 443 = .ok (.aload_n 0, 1) := by decide +kernel
theorem dL_law_444 : decode cL_law 444 = .ok (.iload 4, 2) := by decide +kernel
theorem dL_law_446 : decode cL_law 446 = .ok (.iconst 2, 1) := by decide +kernel
theorem dL_law_447 : decode cL_law 447 = .ok (.iadd, 1) := by decide +kernel
theorem dL_law_448 : decode cL_law 448 = .ok (.iaload, 1) := by decide +kernel
theorem dL_law_449 : decode cL_law 449 = .ok (.aload_n 3, 1) := by decide +kernel
theorem dL_law_450 : decode cL_law 450 = .ok (.invokestatic 98, 3) := by decide +kernel
theorem dL_law_453 : decode cL_law 453 = .ok (.istore 5, 2) := by decide +kernel
theorem dL_law_455 : decode cL_law 455 = .ok (.aload_n 2, 1) := by decide +kernel
theorem dL_law_456 : decode cL_law 456 = .ok (.aload_n 0, 1) := by decide +kernel
theorem dL_law_457 : decode cL_law 457 = .ok (.iload 4, 2) := by decide +kernel
theorem dL_law_459 : decode cL_law 459 = .ok (.iconst 1, 1) := by decide +kernel
theorem dL_law_460 : decode cL_law 460 = .ok (.iadd, 1) := by decide +kernel
theorem dL_law_461 : decode cL_law 461 = .ok (.iaload, 1) := by decide +kernel
theorem dL_law_462 : decode cL_law 462 = .ok (.aload_n 0, 1) := by decide +kernel
theorem dL_law_463 : decode cL_law 463 = .ok (.iload 4, 2) := by decide +kernel
theorem dL_law_465 : decode cL_law 465 = .ok (.iconst 2, 1) := by decide +kernel
theorem dL_law_466 : decode cL_law 466 = .ok (.iadd, 1) := by decide +kernel
theorem dL_law_467 : decode cL_law 467 = .ok (.iaload, 1) := by decide +kernel
theorem dL_law_468 : decode cL_law 468 = .ok (.invokevirtual 100, 3) := by decide +kernel
theorem dL_law_471 : decode cL_law 471 = .ok (.istore 6, 2) := by decide +kernel
theorem dL_law_473 : decode cL_law 473 = .ok (.aload_n 2, 1) := by decide +kernel
theorem dL_law_474 : decode cL_law 474 = .ok (.invokevirtual 80, 3) := by decide +kernel
theorem dL_law_477 : decode cL_law 477 = .ok (.iload 5, 2) := by decide +kernel
theorem dL_law_479 : decode cL_law 479 = .ok (.if_icmp .eq 5, 3) := by decide +kernel
theorem dL_law_482 : decode cL_law 482 = .ok (.iconst 0, 1) := by decide +kernel
theorem dL_law_483 : decode cL_law 483 = .ok (.ireturn, 1) := by decide +kernel
theorem dL_law_484 : decode cL_law 484 = .ok (.iload 5, 2) := by decide +kernel
theorem dL_law_486 : decode cL_law 486 = .ok (.ifCond .ne 15, 3) := by decide +kernel
theorem dL_law_489 : decode cL_law 489 = .ok (.aload_n 3, 1) := by decide +kernel
theorem dL_law_490 : decode cL_law 490 = .ok (.iconst 0, 1) := by decide +kernel
theorem dL_law_491 : decode cL_law 491 = .ok (.laload, 1) := by decide +kernel
theorem dL_law_492 : decode cL_law 492 = .ok (.iload 6, 2) := by decide +kernel
theorem dL_law_494 : decode cL_law 494 = .ok (.i2l, 1) := by decide +kernel
theorem dL_law_495 : decode cL_law 495 = .ok (.lcmp, 1) := by decide +kernel
theorem dL_law_496 : decode cL_law 496 = .ok (.ifCond .eq 5, 3) := by decide +kernel
theorem dL_law_499 : decode cL_law 499 = .ok (.iconst 0, 1) := by decide +kernel
theorem dL_law_500 : decode cL_law 500 = .ok (.ireturn, 1) := by decide +kernel
theorem dL_law_501 : decode cL_law 501 = .ok (.goto 707, 3) := by decide +kernel
theorem dL_law_504 : decode cL_law 504 = .ok (.aload_n 1, 1) := by decide +kernel
theorem dL_law_505 : decode cL_law 505 = .ok (.aload_n 0, 1) := by decide +kernel
theorem dL_law_506 : decode cL_law 506 = .ok (.iload 4, 2) := by decide +kernel
theorem dL_law_508 : decode cL_law 508 = .ok (.iconst 1, 1) := by decide +kernel
theorem dL_law_509 : decode cL_law 509 = .ok (.iadd, 1) := by decide +kernel
theorem dL_law_510 : decode cL_law 510 = .ok (.iaload, 1) := by decide +kernel
theorem dL_law_511 : decode cL_law 511 = .ok (.aload_n 0, 1) := by decide +kernel
theorem dL_law_512 : decode cL_law 512 = .ok (.iload 4, 2) := by decide +kernel
theorem dL_law_514 : decode cL_law 514 = .ok (.iconst 2, 1) := by decide +kernel
theorem dL_law_515 : decode cL_law 515 = .ok (.iadd, 1) := by decide +kernel
theorem dL_law_516 : decode cL_law 516 = .ok (.iaload, 1) := by decide +kernel
theorem dL_law_517 : decode cL_law 517 = .ok (.aload_n 0, 1) := by decide +kernel
theorem dL_law_518 : decode cL_law 518 = .ok (.iload 4, 2) := by decide +kernel
theorem dL_law_520 : decode cL_law 520 = .ok (.iconst 3, 1) := by decide +kernel
theorem dL_law_521 : decode cL_law 521 = .ok (.iadd, 1) := by decide +kernel
theorem dL_law_522 : decode cL_law 522 = .ok (.iaload, 1) := by decide +kernel
theorem dL_law_523 : decode cL_law 523 = .ok (.aload_n 3, 1) := by decide +kernel
theorem dL_law_524 : decode cL_law 524 = .ok (.invokestatic 101, 3) := by decide +kernel
theorem dL_law_527 : decode cL_law 527 = .ok (.istore 5, 2) := by decide +kernel
theorem dL_law_529 : decode cL_law 529 = .ok (.aload_n 2, 1) := by decide +kernel
theorem dL_law_530 : decode cL_law 530 = .ok (.aload_n 0, 1) := by decide +kernel
theorem dL_law_531 : decode cL_law 531 = .ok (.iload 4, 2) := by decide +kernel
theorem dL_law_533 : decode cL_law 533 = .ok (.iconst 1, 1) := by decide +kernel
theorem dL_law_534 : decode cL_law 534 = .ok (.iadd, 1) := by decide +kernel
theorem dL_law_535 : decode cL_law 535 = .ok (.iaload, 1) := by decide +kernel
theorem dL_law_536 : decode cL_law 536 = .ok (.aload_n 0, 1) := by decide +kernel
theorem dL_law_537 : decode cL_law 537 = .ok (.iload 4, 2) := by decide +kernel
theorem dL_law_539 : decode cL_law 539 = .ok (.iconst 2, 1) := by decide +kernel
theorem dL_law_540 : decode cL_law 540 = .ok (.iadd, 1) := by decide +kernel
theorem dL_law_541 : decode cL_law 541 = .ok (.iaload, 1) := by decide +kernel
theorem dL_law_542 : decode cL_law 542 = .ok (.aload_n 0, 1) := by decide +kernel
theorem dL_law_543 : decode cL_law 543 = .ok (.iload 4, 2) := by decide +kernel
theorem dL_law_545 : decode cL_law 545 = .ok (.iconst 3, 1) := by decide +kernel
theorem dL_law_546 : decode cL_law 546 = .ok (.iadd, 1) := by decide +kernel
theorem dL_law_547 : decode cL_law 547 = .ok (.iaload, 1) := by decide +kernel
theorem dL_law_548 : decode cL_law 548 = .ok (.invokevirtual 104, 3) := by decide +kernel
theorem dL_law_551 : decode cL_law 551 = .ok (.istore 6, 2) := by decide +kernel
theorem dL_law_553 : decode cL_law 553 = .ok (.aload_n 2, 1) := by decide +kernel
theorem dL_law_554 : decode cL_law 554 = .ok (.invokevirtual 80, 3) := by decide +kernel
theorem dL_law_557 : decode cL_law 557 = .ok (.iload 5, 2) := by decide +kernel
theorem dL_law_559 : decode cL_law 559 = .ok (.if_icmp .eq 5, 3) := by decide +kernel
theorem dL_law_562 : decode cL_law 562 = .ok (.iconst 0, 1) := by decide +kernel
theorem dL_law_563 : decode cL_law 563 = .ok (.ireturn, 1) := by decide +kernel
theorem dL_law_564 : decode cL_law 564 = .ok (.iload 5, 2) := by decide +kernel
theorem dL_law_566 : decode cL_law 566 = .ok (.ifCond .ne 15, 3) := by decide +kernel
theorem dL_law_569 : decode cL_law 569 = .ok (.aload_n 3, 1) := by decide +kernel
theorem dL_law_570 : decode cL_law 570 = .ok (.iconst 0, 1) := by decide +kernel
theorem dL_law_571 : decode cL_law 571 = .ok (.laload, 1) := by decide +kernel
theorem dL_law_572 : decode cL_law 572 = .ok (.iload 6, 2) := by decide +kernel
theorem dL_law_574 : decode cL_law 574 = .ok (.i2l, 1) := by decide +kernel
theorem dL_law_575 : decode cL_law 575 = .ok (.lcmp, 1) := by decide +kernel
theorem dL_law_576 : decode cL_law 576 = .ok (.ifCond .eq 5, 3) := by decide +kernel
theorem dL_law_579 : decode cL_law 579 = .ok (.iconst 0, 1) := by decide +kernel
theorem dL_law_580 : decode cL_law 580 = .ok (.ireturn, 1) := by decide +kernel
theorem dL_law_581 : decode cL_law 581 = .ok (.goto 627, 3) := by decide +kernel
theorem dL_law_584 : decode cL_law 584 = .ok (.aload_n 1, 1) := by decide +kernel
theorem dL_law_585 : decode cL_law 585 = .ok (.aload_n 0, 1) := by decide +kernel
theorem dL_law_586 : decode cL_law 586 = .ok (.iload 4, 2) := by decide +kernel
theorem dL_law_588 : decode cL_law 588 = .ok (.iconst 1, 1) := by decide +kernel
theorem dL_law_589 : decode cL_law 589 = .ok (.iadd, 1) := by decide +kernel
theorem dL_law_590 : decode cL_law 590 = .ok (.iaload, 1) := by decide +kernel
theorem dL_law_591 : decode cL_law 591 = .ok (.aload_n 0, 1) := by decide +kernel
theorem dL_law_592 : decode cL_law 592 = .ok (.iload 4, 2) := by decide +kernel
theorem dL_law_594 : decode cL_law 594 = .ok (.iconst 2, 1) := by decide +kernel
theorem dL_law_595 : decode cL_law 595 = .ok (.iadd, 1) := by decide +kernel
theorem dL_law_596 : decode cL_law 596 = .ok (.iaload, 1) := by decide +kernel
theorem dL_law_597 : decode cL_law 597 = .ok (.aload_n 0, 1) := by decide +kernel
theorem dL_law_598 : decode cL_law 598 = .ok (.iload 4, 2) := by decide +kernel
theorem dL_law_600 : decode cL_law 600 = .ok (.iconst 3, 1) := by decide +kernel
theorem dL_law_601 : decode cL_law 601 = .ok (.iadd, 1) := by decide +kernel
theorem dL_law_602 : decode cL_law 602 = .ok (.iaload, 1) := by decide +kernel
theorem dL_law_603 : decode cL_law 603 = .ok (.aload_n 0, 1) := by decide +kernel
theorem dL_law_604 : decode cL_law 604 = .ok (.iload 4, 2) := by decide +kernel
theorem dL_law_606 : decode cL_law 606 = .ok (.iconst 4, 1) := by decide +kernel
theorem dL_law_607 : decode cL_law 607 = .ok (.iadd, 1) := by decide +kernel
theorem dL_law_608 : decode cL_law 608 = .ok (.iaload, 1) := by decide +kernel
theorem dL_law_609 : decode cL_law 609 = .ok (.aload_n 3, 1) := by decide +kernel
theorem dL_law_610 : decode cL_law 610 = .ok (.invokestatic 105, 3) := by decide +kernel
theorem dL_law_613 : decode cL_law 613 = .ok (.istore 5, 2) := by decide +kernel
theorem dL_law_615 : decode cL_law 615 = .ok (.aload_n 2, 1) := by decide +kernel
theorem dL_law_616 : decode cL_law 616 = .ok (.aload_n 0, 1) := by decide +kernel
theorem dL_law_617 : decode cL_law 617 = .ok (.iload 4, 2) := by decide +kernel
theorem dL_law_619 : decode cL_law 619 = .ok (.iconst 1, 1) := by decide +kernel
theorem dL_law_620 : decode cL_law 620 = .ok (.iadd, 1) := by decide +kernel
theorem dL_law_621 : decode cL_law 621 = .ok (.iaload, 1) := by decide +kernel
theorem dL_law_622 : decode cL_law 622 = .ok (.aload_n 0, 1) := by decide +kernel
theorem dL_law_623 : decode cL_law 623 = .ok (.iload 4, 2) := by decide +kernel
theorem dL_law_625 : decode cL_law 625 = .ok (.iconst 2, 1) := by decide +kernel
theorem dL_law_626 : decode cL_law 626 = .ok (.iadd, 1) := by decide +kernel
theorem dL_law_627 : decode cL_law 627 = .ok (.iaload, 1) := by decide +kernel
theorem dL_law_628 : decode cL_law 628 = .ok (.aload_n 0, 1) := by decide +kernel
theorem dL_law_629 : decode cL_law 629 = .ok (.iload 4, 2) := by decide +kernel
theorem dL_law_631 : decode cL_law 631 = .ok (.iconst 3, 1) := by decide +kernel
theorem dL_law_632 : decode cL_law 632 = .ok (.iadd, 1) := by decide +kernel
theorem dL_law_633 : decode cL_law 633 = .ok (.iaload, 1) := by decide +kernel
theorem dL_law_634 : decode cL_law 634 = .ok (.aload_n 0, 1) := by decide +kernel
theorem dL_law_635 : decode cL_law 635 = .ok (.iload 4, 2) := by decide +kernel
theorem dL_law_637 : decode cL_law 637 = .ok (.iconst 4, 1) := by decide +kernel
theorem dL_law_638 : decode cL_law 638 = .ok (.iadd, 1) := by decide +kernel
theorem dL_law_639 : decode cL_law 639 = .ok (.iaload, 1) := by decide +kernel
theorem dL_law_640 : decode cL_law 640 = .ok (.invokevirtual 108, 3) := by decide +kernel
theorem dL_law_643 : decode cL_law 643 = .ok (.istore 6, 2) := by decide +kernel
theorem dL_law_645 : decode cL_law 645 = .ok (.aload_n 2, 1) := by decide +kernel
theorem dL_law_646 : decode cL_law 646 = .ok (.invokevirtual 80, 3) := by decide +kernel
theorem dL_law_649 : decode cL_law 649 = .ok (.iload 5, 2) := by decide +kernel
theorem dL_law_651 : decode cL_law 651 = .ok (.if_icmp .eq 5, 3) := by decide +kernel
theorem dL_law_654 : decode cL_law 654 = .ok (.iconst 0, 1) := by decide +kernel
theorem dL_law_655 : decode cL_law 655 = .ok (.ireturn, 1) := by decide +kernel
theorem dL_law_656 : decode cL_law 656 = .ok (.iload 5, 2) := by decide +kernel
theorem dL_law_658 : decode cL_law 658 = .ok (.ifCond .ne 15, 3) := by decide +kernel
theorem dL_law_661 : decode cL_law 661 = .ok (.aload_n 3, 1) := by decide +kernel
theorem dL_law_662 : decode cL_law 662 = .ok (.iconst 0, 1) := by decide +kernel
theorem dL_law_663 : decode cL_law 663 = .ok (.laload, 1) := by decide +kernel
theorem dL_law_664 : decode cL_law 664 = .ok (.iload 6, 2) := by decide +kernel
theorem dL_law_666 : decode cL_law 666 = .ok (.i2l, 1) := by decide +kernel
theorem dL_law_667 : decode cL_law 667 = .ok (.lcmp, 1) := by decide +kernel
theorem dL_law_668 : decode cL_law 668 = .ok (.ifCond .eq 5, 3) := by decide +kernel
theorem dL_law_671 : decode cL_law 671 = .ok (.iconst 0, 1) := by decide +kernel
theorem dL_law_672 : decode cL_law 672 = .ok (.ireturn, 1) := by decide +kernel
theorem dL_law_673 : decode cL_law 673 = .ok (.goto 535, 3) := by decide +kernel
theorem dL_law_676 : decode cL_law 676 = .ok (.aload_n 1, 1) := by decide +kernel
theorem dL_law_677 : decode cL_law 677 = .ok (.aload_n 0, 1) := by decide +kernel
theorem dL_law_678 : decode cL_law 678 = .ok (.iload 4, 2) := by decide +kernel
theorem dL_law_680 : decode cL_law 680 = .ok (.iconst 1, 1) := by decide +kernel
theorem dL_law_681 : decode cL_law 681 = .ok (.iadd, 1) := by decide +kernel
theorem dL_law_682 : decode cL_law 682 = .ok (.iaload, 1) := by decide +kernel
theorem dL_law_683 : decode cL_law 683 = .ok (.aload_n 0, 1) := by decide +kernel
theorem dL_law_684 : decode cL_law 684 = .ok (.iload 4, 2) := by decide +kernel
theorem dL_law_686 : decode cL_law 686 = .ok (.iconst 2, 1) := by decide +kernel
theorem dL_law_687 : decode cL_law 687 = .ok (.iadd, 1) := by decide +kernel
theorem dL_law_688 : decode cL_law 688 = .ok (.iaload, 1) := by decide +kernel
theorem dL_law_689 : decode cL_law 689 = .ok (.aload_n 3, 1) := by decide +kernel
theorem dL_law_690 : decode cL_law 690 = .ok (.invokestatic 109, 3) := by decide +kernel
theorem dL_law_693 : decode cL_law 693 = .ok (.istore 5, 2) := by decide +kernel
theorem dL_law_695 : decode cL_law 695 = .ok (.aload_n 2, 1) := by decide +kernel
theorem dL_law_696 : decode cL_law 696 = .ok (.aload_n 0, 1) := by decide +kernel
theorem dL_law_697 : decode cL_law 697 = .ok (.iload 4, 2) := by decide +kernel
theorem dL_law_699 : decode cL_law 699 = .ok (.iconst 1, 1) := by decide +kernel
theorem dL_law_700 : decode cL_law 700 = .ok (.iadd, 1) := by decide +kernel
theorem dL_law_701 : decode cL_law 701 = .ok (.iaload, 1) := by decide +kernel
theorem dL_law_702 : decode cL_law 702 = .ok (.aload_n 0, 1) := by decide +kernel
theorem dL_law_703 : decode cL_law 703 = .ok (.iload 4, 2) := by decide +kernel
theorem dL_law_705 : decode cL_law 705 = .ok (.iconst 2, 1) := by decide +kernel
theorem dL_law_706 : decode cL_law 706 = .ok (.iadd, 1) := by decide +kernel
theorem dL_law_707 : decode cL_law 707 = .ok (.iaload, 1) := by decide +kernel
theorem dL_law_708 : decode cL_law 708 = .ok (.invokevirtual 111, 3) := by decide +kernel
theorem dL_law_711 : decode cL_law 711 = .ok (.istore 6, 2) := by decide +kernel
theorem dL_law_713 : decode cL_law 713 = .ok (.aload_n 2, 1) := by decide +kernel
theorem dL_law_714 : decode cL_law 714 = .ok (.invokevirtual 80, 3) := by decide +kernel
theorem dL_law_717 : decode cL_law 717 = .ok (.iload 5, 2) := by decide +kernel
theorem dL_law_719 : decode cL_law 719 = .ok (.if_icmp .eq 5, 3) := by decide +kernel
theorem dL_law_722 : decode cL_law 722 = .ok (.iconst 0, 1) := by decide +kernel
theorem dL_law_723 : decode cL_law 723 = .ok (.ireturn, 1) := by decide +kernel
theorem dL_law_724 : decode cL_law 724 = .ok (.iload 5, 2) := by decide +kernel
theorem dL_law_726 : decode cL_law 726 = .ok (.ifCond .ne 15, 3) := by decide +kernel
theorem dL_law_729 : decode cL_law 729 = .ok (.aload_n 3, 1) := by decide +kernel
theorem dL_law_730 : decode cL_law 730 = .ok (.iconst 0, 1) := by decide +kernel
theorem dL_law_731 : decode cL_law 731 = .ok (.laload, 1) := by decide +kernel
theorem dL_law_732 : decode cL_law 732 = .ok (.iload 6, 2) := by decide +kernel
theorem dL_law_734 : decode cL_law 734 = .ok (.i2l, 1) := by decide +kernel
theorem dL_law_735 : decode cL_law 735 = .ok (.lcmp, 1) := by decide +kernel
theorem dL_law_736 : decode cL_law 736 = .ok (.ifCond .eq 5, 3) := by decide +kernel
theorem dL_law_739 : decode cL_law 739 = .ok (.iconst 0, 1) := by decide +kernel
theorem dL_law_740 : decode cL_law 740 = .ok (.ireturn, 1) := by decide +kernel
theorem dL_law_741 : decode cL_law 741 = .ok (.goto 467, 3) := by decide +kernel
theorem dL_law_744 : decode cL_law 744 = .ok (.aload_n 1, 1) := by decide +kernel
theorem dL_law_745 : decode cL_law 745 = .ok (.aload_n 0, 1) := by decide +kernel
theorem dL_law_746 : decode cL_law 746 = .ok (.iload 4, 2) := by decide +kernel
theorem dL_law_748 : decode cL_law 748 = .ok (.iconst 1, 1) := by decide +kernel
theorem dL_law_749 : decode cL_law 749 = .ok (.iadd, 1) := by decide +kernel
theorem dL_law_750 : decode cL_law 750 = .ok (.iaload, 1) := by decide +kernel
theorem dL_law_751 : decode cL_law 751 = .ok (.aload_n 0, 1) := by decide +kernel
theorem dL_law_752 : decode cL_law 752 = .ok (.iload 4, 2) := by decide +kernel
theorem dL_law_754 : decode cL_law 754 = .ok (.iconst 2, 1) := by decide +kernel
theorem dL_law_755 : decode cL_law 755 = .ok (.iadd, 1) := by decide +kernel
theorem dL_law_756 : decode cL_law 756 = .ok (.iaload, 1) := by decide +kernel
theorem dL_law_757 : decode cL_law 757 = .ok (.aload_n 3, 1) := by decide +kernel
theorem dL_law_758 : decode cL_law 758 = .ok (.invokestatic 112, 3) := by decide +kernel
theorem dL_law_761 : decode cL_law 761 = .ok (.istore 5, 2) := by decide +kernel
theorem dL_law_763 : decode cL_law 763 = .ok (.aload_n 2, 1) := by decide +kernel
theorem dL_law_764 : decode cL_law 764 = .ok (.aload_n 0, 1) := by decide +kernel
theorem dL_law_765 : decode cL_law 765 = .ok (.iload 4, 2) := by decide +kernel
theorem dL_law_767 : decode cL_law 767 = .ok (.iconst 1, 1) := by decide +kernel
theorem dL_law_768 : decode cL_law 768 = .ok (.iadd, 1) := by decide +kernel
theorem dL_law_769 : decode cL_law 769 = .ok (.iaload, 1) := by decide +kernel
theorem dL_law_770 : decode cL_law 770 = .ok (.aload_n 0, 1) := by decide +kernel
theorem dL_law_771 : decode cL_law 771 = .ok (.iload 4, 2) := by decide +kernel
theorem dL_law_773 : decode cL_law 773 = .ok (.iconst 2, 1) := by decide +kernel
theorem dL_law_774 : decode cL_law 774 = .ok (.iadd, 1) := by decide +kernel
theorem dL_law_775 : decode cL_law 775 = .ok (.iaload, 1) := by decide +kernel
theorem dL_law_776 : decode cL_law 776 = .ok (.invokevirtual 114, 3) := by decide +kernel
theorem dL_law_779 : decode cL_law 779 = .ok (.istore 6, 2) := by decide +kernel
theorem dL_law_781 : decode cL_law 781 = .ok (.aload_n 2, 1) := by decide +kernel
theorem dL_law_782 : decode cL_law 782 = .ok (.invokevirtual 80, 3) := by decide +kernel
theorem dL_law_785 : decode cL_law 785 = .ok (.iload 5, 2) := by decide +kernel
theorem dL_law_787 : decode cL_law 787 = .ok (.if_icmp .eq 5, 3) := by decide +kernel
theorem dL_law_790 : decode cL_law 790 = .ok (.iconst 0, 1) := by decide +kernel
theorem dL_law_791 : decode cL_law 791 = .ok (.ireturn, 1) := by decide +kernel
theorem dL_law_792 : decode cL_law 792 = .ok (.iload 5, 2) := by decide +kernel
theorem dL_law_794 : decode cL_law 794 = .ok (.ifCond .ne 15, 3) := by decide +kernel
theorem dL_law_797 : decode cL_law 797 = .ok (.aload_n 3, 1) := by decide +kernel
theorem dL_law_798 : decode cL_law 798 = .ok (.iconst 0, 1) := by decide +kernel
theorem dL_law_799 : decode cL_law 799 = .ok (.laload, 1) := by decide +kernel
theorem dL_law_800 : decode cL_law 800 = .ok (.iload 6, 2) := by decide +kernel
theorem dL_law_802 : decode cL_law 802 = .ok (.i2l, 1) := by decide +kernel
theorem dL_law_803 : decode cL_law 803 = .ok (.lcmp, 1) := by decide +kernel
theorem dL_law_804 : decode cL_law 804 = .ok (.ifCond .eq 5, 3) := by decide +kernel
theorem dL_law_807 : decode cL_law 807 = .ok (.iconst 0, 1) := by decide +kernel
theorem dL_law_808 : decode cL_law 808 = .ok (.ireturn, 1) := by decide +kernel
theorem dL_law_809 : decode cL_law 809 = .ok (.goto 399, 3) := by decide +kernel
theorem dL_law_812 : decode cL_law 812 = .ok (.aload_n 1, 1) := by decide +kernel
theorem dL_law_813 : decode cL_law 813 = .ok (.aload_n 0, 1) := by decide +kernel
theorem dL_law_814 : decode cL_law 814 = .ok (.iload 4, 2) := by decide +kernel
theorem dL_law_816 : decode cL_law 816 = .ok (.iconst 1, 1) := by decide +kernel
theorem dL_law_817 : decode cL_law 817 = .ok (.iadd, 1) := by decide +kernel
theorem dL_law_818 : decode cL_law 818 = .ok (.iaload, 1) := by decide +kernel
theorem dL_law_819 : decode cL_law 819 = .ok (.aload_n 3, 1) := by decide +kernel
theorem dL_law_820 : decode cL_law 820 = .ok (.invokestatic 115, 3) := by decide +kernel
theorem dL_law_823 : decode cL_law 823 = .ok (.istore 5, 2) := by decide +kernel
theorem dL_law_825 : decode cL_law 825 = .ok (.aload_n 2, 1) := by decide +kernel
theorem dL_law_826 : decode cL_law 826 = .ok (.aload_n 0, 1) := by decide +kernel
theorem dL_law_827 : decode cL_law 827 = .ok (.iload 4, 2) := by decide +kernel
theorem dL_law_829 : decode cL_law 829 = .ok (.iconst 1, 1) := by decide +kernel
theorem dL_law_830 : decode cL_law 830 = .ok (.iadd, 1) := by decide +kernel
theorem dL_law_831 : decode cL_law 831 = .ok (.iaload, 1) := by decide +kernel
theorem dL_law_832 : decode cL_law 832 = .ok (.invokevirtual 117, 3) := by decide +kernel
theorem dL_law_835 : decode cL_law 835 = .ok (.istore 6, 2) := by decide +kernel
theorem dL_law_837 : decode cL_law 837 = .ok (.aload_n 2, 1) := by decide +kernel
theorem dL_law_838 : decode cL_law 838 = .ok (.invokevirtual 80, 3) := by decide +kernel
theorem dL_law_841 : decode cL_law 841 = .ok (.iload 5, 2) := by decide +kernel
theorem dL_law_843 : decode cL_law 843 = .ok (.if_icmp .eq 5, 3) := by decide +kernel
theorem dL_law_846 : decode cL_law 846 = .ok (.iconst 0, 1) := by decide +kernel
theorem dL_law_847 : decode cL_law 847 = .ok (.ireturn, 1) := by decide +kernel
theorem dL_law_848 : decode cL_law 848 = .ok (.iload 5, 2) := by decide +kernel
theorem dL_law_850 : decode cL_law 850 = .ok (.ifCond .ne 15, 3) := by decide +kernel
theorem dL_law_853 : decode cL_law 853 = .ok (.aload_n 3, 1) := by decide +kernel
theorem dL_law_854 : decode cL_law 854 = .ok (.iconst 0, 1) := by decide +kernel
theorem dL_law_855 : decode cL_law 855 = .ok (.laload, 1) := by decide +kernel
theorem dL_law_856 : decode cL_law 856 = .ok (.iload 6, 2) := by decide +kernel
theorem dL_law_858 : decode cL_law 858 = .ok (.i2l, 1) := by decide +kernel
theorem dL_law_859 : decode cL_law 859 = .ok (.lcmp, 1) := by decide +kernel
theorem dL_law_860 : decode cL_law 860 = .ok (.ifCond .eq 5, 3) := by decide +kernel
theorem dL_law_863 : decode cL_law 863 = .ok (.iconst 0, 1) := by decide +kernel
theorem dL_law_864 : decode cL_law 864 = .ok (.ireturn, 1) := by decide +kernel
theorem dL_law_865 : decode cL_law 865 = .ok (.goto 343, 3) := by decide +kernel
theorem dL_law_868 : decode cL_law 868 = .ok (.aload_n 1, 1) := by decide +kernel
theorem dL_law_869 : decode cL_law 869 = .ok (.aload_n 0, 1) := by decide +kernel
theorem dL_law_870 : decode cL_law 870 = .ok (.iload 4, 2) := by decide +kernel
theorem dL_law_872 : decode cL_law 872 = .ok (.iconst 1, 1) := by decide +kernel
theorem dL_law_873 : decode cL_law 873 = .ok (.iadd, 1) := by decide +kernel
theorem dL_law_874 : decode cL_law 874 = .ok (.iaload, 1) := by decide +kernel
theorem dL_law_875 : decode cL_law 875 = .ok (.aload_n 3, 1) := by decide +kernel
theorem dL_law_876 : decode cL_law 876 = .ok (.invokestatic 118, 3) := by decide +kernel
theorem dL_law_879 : decode cL_law 879 = .ok (.istore 5, 2) := by decide +kernel
theorem dL_law_881 : decode cL_law 881 = .ok (.aload_n 2, 1) := by decide +kernel
theorem dL_law_882 : decode cL_law 882 = .ok (.aload_n 0, 1) := by decide +kernel
theorem dL_law_883 : decode cL_law 883 = .ok (.iload 4, 2) := by decide +kernel
theorem dL_law_885 : decode cL_law 885 = .ok (.iconst 1, 1) := by decide +kernel
theorem dL_law_886 : decode cL_law 886 = .ok (.iadd, 1) := by decide +kernel
theorem dL_law_887 : decode cL_law 887 = .ok (.iaload, 1) := by decide +kernel
theorem dL_law_888 : decode cL_law 888 = .ok (.invokevirtual 120, 3) := by decide +kernel
theorem dL_law_891 : decode cL_law 891 = .ok (.istore 6, 2) := by decide +kernel
theorem dL_law_893 : decode cL_law 893 = .ok (.aload_n 2, 1) := by decide +kernel
theorem dL_law_894 : decode cL_law 894 = .ok (.invokevirtual 80, 3) := by decide +kernel
theorem dL_law_897 : decode cL_law 897 = .ok (.iload 5, 2) := by decide +kernel
theorem dL_law_899 : decode cL_law 899 = .ok (.if_icmp .eq 5, 3) := by decide +kernel
theorem dL_law_902 : decode cL_law 902 = .ok (.iconst 0, 1) := by decide +kernel
theorem dL_law_903 : decode cL_law 903 = .ok (.ireturn, 1) := by decide +kernel
theorem dL_law_904 : decode cL_law 904 = .ok (.iload 5, 2) := by decide +kernel
theorem dL_law_906 : decode cL_law 906 = .ok (.ifCond .ne 15, 3) := by decide +kernel
theorem dL_law_909 : decode cL_law 909 = .ok (.aload_n 3, 1) := by decide +kernel
theorem dL_law_910 : decode cL_law 910 = .ok (.iconst 0, 1) := by decide +kernel
theorem dL_law_911 : decode cL_law 911 = .ok (.laload, 1) := by decide +kernel
theorem dL_law_912 : decode cL_law 912 = .ok (.iload 6, 2) := by decide +kernel
theorem dL_law_914 : decode cL_law 914 = .ok (.i2l, 1) := by decide +kernel
theorem dL_law_915 : decode cL_law 915 = .ok (.lcmp, 1) := by decide +kernel
theorem dL_law_916 : decode cL_law 916 = .ok (.ifCond .eq 5, 3) := by decide +kernel
theorem dL_law_919 : decode cL_law 919 = .ok (.iconst 0, 1) := by decide +kernel
theorem dL_law_920 : decode cL_law 920 = .ok (.ireturn, 1) := by decide +kernel
theorem dL_law_921 : decode cL_law 921 = .ok (.goto 287, 3) := by decide +kernel
theorem dL_law_924 : decode cL_law 924 = .ok (.aload_n 1, 1) := by decide +kernel
theorem dL_law_925 : decode cL_law 925 = .ok (.aload_n 0, 1) := by decide +kernel
theorem dL_law_926 : decode cL_law 926 = .ok (.iload 4, 2) := by decide +kernel
theorem dL_law_928 : decode cL_law 928 = .ok (.iconst 1, 1) := by decide +kernel
theorem dL_law_929 : decode cL_law 929 = .ok (.iadd, 1) := by decide +kernel
theorem dL_law_930 : decode cL_law 930 = .ok (.iaload, 1) := by decide +kernel
theorem dL_law_931 : decode cL_law 931 = .ok (.aload_n 0, 1) := by decide +kernel
theorem dL_law_932 : decode cL_law 932 = .ok (.iload 4, 2) := by decide +kernel
theorem dL_law_934 : decode cL_law 934 = .ok (.iconst 2, 1) := by decide +kernel
theorem dL_law_935 : decode cL_law 935 = .ok (.iadd, 1) := by decide +kernel
theorem dL_law_936 : decode cL_law 936 = .ok (.iaload, 1) := by decide +kernel
theorem dL_law_937 : decode cL_law 937 = .ok (.aload_n 3, 1) := by decide +kernel
theorem dL_law_938 : decode cL_law 938 = .ok (.invokestatic 121, 3) := by decide +kernel
theorem dL_law_941 : decode cL_law 941 = .ok (.istore 5, 2) := by decide +kernel
theorem dL_law_943 : decode cL_law 943 = .ok (.aload_n 2, 1) := by decide +kernel
theorem dL_law_944 : decode cL_law 944 = .ok (.aload_n 0, 1) := by decide +kernel
theorem dL_law_945 : decode cL_law 945 = .ok (.iload 4, 2) := by decide +kernel
theorem dL_law_947 : decode cL_law 947 = .ok (.iconst 1, 1) := by decide +kernel
theorem dL_law_948 : decode cL_law 948 = .ok (.iadd, 1) := by decide +kernel
theorem dL_law_949 : decode cL_law 949 = .ok (.iaload, 1) := by decide +kernel
theorem dL_law_950 : decode cL_law 950 = .ok (.aload_n 0, 1) := by decide +kernel
theorem dL_law_951 : decode cL_law 951 = .ok (.iload 4, 2) := by decide +kernel
theorem dL_law_953 : decode cL_law 953 = .ok (.iconst 2, 1) := by decide +kernel
theorem dL_law_954 : decode cL_law 954 = .ok (.iadd, 1) := by decide +kernel
theorem dL_law_955 : decode cL_law 955 = .ok (.iaload, 1) := by decide +kernel
theorem dL_law_956 : decode cL_law 956 = .ok (.invokevirtual 123, 3) := by decide +kernel
theorem dL_law_959 : decode cL_law 959 = .ok (.istore 6, 2) := by decide +kernel
theorem dL_law_961 : decode cL_law 961 = .ok (.aload_n 2, 1) := by decide +kernel
theorem dL_law_962 : decode cL_law 962 = .ok (.invokevirtual 80, 3) := by decide +kernel
theorem dL_law_965 : decode cL_law 965 = .ok (.iload 5, 2) := by decide +kernel
theorem dL_law_967 : decode cL_law 967 = .ok (.if_icmp .eq 5, 3) := by decide +kernel
theorem dL_law_970 : decode cL_law 970 = .ok (.iconst 0, 1) := by decide +kernel
theorem dL_law_971 : decode cL_law 971 = .ok (.ireturn, 1) := by decide +kernel
theorem dL_law_972 : decode cL_law 972 = .ok (.iload 5, 2) := by decide +kernel
theorem dL_law_974 : decode cL_law 974 = .ok (.ifCond .ne 15, 3) := by decide +kernel
theorem dL_law_977 : decode cL_law 977 = .ok (.aload_n 3, 1) := by decide +kernel
theorem dL_law_978 : decode cL_law 978 = .ok (.iconst 0, 1) := by decide +kernel
theorem dL_law_979 : decode cL_law 979 = .ok (.laload, 1) := by decide +kernel
theorem dL_law_980 : decode cL_law 980 = .ok (.iload 6, 2) := by decide +kernel
theorem dL_law_982 : decode cL_law 982 = .ok (.i2l, 1) := by decide +kernel
theorem dL_law_983 : decode cL_law 983 = .ok (.lcmp, 1) := by decide +kernel
theorem dL_law_984 : decode cL_law 984 = .ok (.ifCond .eq 5, 3) := by decide +kernel
theorem dL_law_987 : decode cL_law 987 = .ok (.iconst 0, 1) := by decide +kernel
theorem dL_law_988 : decode cL_law 988 = .ok (.ireturn, 1) := by decide +kernel
theorem dL_law_989 : decode cL_law 989 = .ok (.goto 219, 3) := by decide +kernel
theorem dL_law_992 : decode cL_law 992 = .ok (.aload_n 1, 1) := by decide +kernel
theorem dL_law_993 : decode cL_law 993 = .ok (.aload_n 0, 1) := by decide +kernel
theorem dL_law_994 : decode cL_law 994 = .ok (.iload 4, 2) := by decide +kernel
theorem dL_law_996 : decode cL_law 996 = .ok (.iconst 1, 1) := by decide +kernel
theorem dL_law_997 : decode cL_law 997 = .ok (.iadd, 1) := by decide +kernel
theorem dL_law_998 : decode cL_law 998 = .ok (.iaload, 1) := by decide +kernel
theorem dL_law_999 : decode cL_law 999 = .ok (.aload_n 0, 1) := by decide +kernel
theorem dL_law_1000 : decode cL_law 1000 = .ok (.iload 4, 2) := by decide +kernel
theorem dL_law_1002 : decode cL_law 1002 = .ok (.iconst 2, 1) := by decide +kernel
theorem dL_law_1003 : decode cL_law 1003 = .ok (.iadd, 1) := by decide +kernel
theorem dL_law_1004 : decode cL_law 1004 = .ok (.iaload, 1) := by decide +kernel
theorem dL_law_1005 : decode cL_law 1005 = .ok (.aload_n 0, 1) := by decide +kernel
theorem dL_law_1006 : decode cL_law 1006 = .ok (.iload 4, 2) := by decide +kernel
theorem dL_law_1008 : decode cL_law 1008 = .ok (.iconst 3, 1) := by decide +kernel
theorem dL_law_1009 : decode cL_law 1009 = .ok (.iadd, 1) := by decide +kernel
theorem dL_law_1010 : decode cL_law 1010 = .ok (.iaload, 1) := by decide +kernel
theorem dL_law_1011 : decode cL_law 1011 = .ok (.aload_n 0, 1) := by decide +kernel
theorem dL_law_1012 : decode cL_law 1012 = .ok (.iload 4, 2) := by decide +kernel
theorem dL_law_1014 : decode cL_law 1014 = .ok (.iconst 4, 1) := by decide +kernel
theorem dL_law_1015 : decode cL_law 1015 = .ok (.iadd, 1) := by decide +kernel
theorem dL_law_1016 : decode cL_law 1016 = .ok (.iaload, 1) := by decide +kernel
theorem dL_law_1017 : decode cL_law 1017 = .ok (.aload_n 3, 1) := by decide +kernel
theorem dL_law_1018 : decode cL_law 1018 = .ok (.invokestatic 124, 3) := by decide +kernel
theorem dL_law_1021 : decode cL_law 1021 = .ok (.istore 5, 2) := by decide +kernel
theorem dL_law_1023 : decode cL_law 1023 = .ok (.aload_n 2, 1) := by decide +kernel
theorem dL_law_1024 : decode cL_law 1024 = .ok (.aload_n 0, 1) := by decide +kernel
theorem dL_law_1025 : decode cL_law 1025 = .ok (.iload 4, 2) := by decide +kernel
theorem dL_law_1027 : decode cL_law 1027 = .ok (.iconst 1, 1) := by decide +kernel
theorem dL_law_1028 : decode cL_law 1028 = .ok (.iadd, 1) := by decide +kernel
theorem dL_law_1029 : decode cL_law 1029 = .ok (.iaload, 1) := by decide +kernel
theorem dL_law_1030 : decode cL_law 1030 = .ok (.aload_n 0, 1) := by decide +kernel
theorem dL_law_1031 : decode cL_law 1031 = .ok (.iload 4, 2) := by decide +kernel
theorem dL_law_1033 : decode cL_law 1033 = .ok (.iconst 2, 1) := by decide +kernel
theorem dL_law_1034 : decode cL_law 1034 = .ok (.iadd, 1) := by decide +kernel
theorem dL_law_1035 : decode cL_law 1035 = .ok (.iaload, 1) := by decide +kernel
theorem dL_law_1036 : decode cL_law 1036 = .ok (.aload_n 0, 1) := by decide +kernel
theorem dL_law_1037 : decode cL_law 1037 = .ok (.iload 4, 2) := by decide +kernel
theorem dL_law_1039 : decode cL_law 1039 = .ok (.iconst 3, 1) := by decide +kernel
theorem dL_law_1040 : decode cL_law 1040 = .ok (.iadd, 1) := by decide +kernel
theorem dL_law_1041 : decode cL_law 1041 = .ok (.iaload, 1) := by decide +kernel
theorem dL_law_1042 : decode cL_law 1042 = .ok (.aload_n 0, 1) := by decide +kernel
theorem dL_law_1043 : decode cL_law 1043 = .ok (.iload 4, 2) := by decide +kernel
theorem dL_law_1045 : decode cL_law 1045 = .ok (.iconst 4, 1) := by decide +kernel
theorem dL_law_1046 : decode cL_law 1046 = .ok (.iadd, 1) := by decide +kernel
theorem dL_law_1047 : decode cL_law 1047 = .ok (.iaload, 1) := by decide +kernel
theorem dL_law_1048 : decode cL_law 1048 = .ok (.invokevirtual 126, 3) := by decide +kernel
theorem dL_law_1051 : decode cL_law 1051 = .ok (.istore 6, 2) := by decide +kernel
theorem dL_law_1053 : decode cL_law 1053 = .ok (.aload_n 2, 1) := by decide +kernel
theorem dL_law_1054 : decode cL_law 1054 = .ok (.invokevirtual 80, 3) := by decide +kernel
theorem dL_law_1057 : decode cL_law 1057 = .ok (.iload 5, 2) := by decide +kernel
theorem dL_law_1059 : decode cL_law 1059 = .ok (.if_icmp .eq 5, 3) := by decide +kernel
theorem dL_law_1062 : decode cL_law 1062 = .ok (.iconst 0, 1) := by decide +kernel
theorem dL_law_1063 : decode cL_law 1063 = .ok (.ireturn, 1) := by decide +kernel
theorem dL_law_1064 : decode cL_law 1064 = .ok (.iload 5, 2) := by decide +kernel
theorem dL_law_1066 : decode cL_law 1066 = .ok (.ifCond .ne 15, 3) := by decide +kernel
theorem dL_law_1069 : decode cL_law 1069 = .ok (.aload_n 3, 1) := by decide +kernel
theorem dL_law_1070 : decode cL_law 1070 = .ok (.iconst 0, 1) := by decide +kernel
theorem dL_law_1071 : decode cL_law 1071 = .ok (.laload, 1) := by decide +kernel
theorem dL_law_1072 : decode cL_law 1072 = .ok (.iload 6, 2) := by decide +kernel
theorem dL_law_1074 : decode cL_law 1074 = .ok (.i2l, 1) := by decide +kernel
theorem dL_law_1075 : decode cL_law 1075 = .ok (.lcmp, 1) := by decide +kernel
theorem dL_law_1076 : decode cL_law 1076 = .ok (.ifCond .eq 5, 3) := by decide +kernel
theorem dL_law_1079 : decode cL_law 1079 = .ok (.iconst 0, 1) := by decide +kernel
theorem dL_law_1080 : decode cL_law 1080 = .ok (.ireturn, 1) := by decide +kernel
theorem dL_law_1081 : decode cL_law 1081 = .ok (.goto 127, 3) := by decide +kernel
theorem dL_law_1084 : decode cL_law 1084 = .ok (.aload_n 1, 1) := by decide +kernel
theorem dL_law_1085 : decode cL_law 1085 = .ok (.aload_n 0, 1) := by decide +kernel
theorem dL_law_1086 : decode cL_law 1086 = .ok (.iload 4, 2) := by decide +kernel
theorem dL_law_1088 : decode cL_law 1088 = .ok (.iconst 1, 1) := by decide +kernel
theorem dL_law_1089 : decode cL_law 1089 = .ok (.iadd, 1) := by decide +kernel
theorem dL_law_1090 : decode cL_law 1090 = .ok (.iaload, 1) := by decide +kernel
theorem dL_law_1091 : decode cL_law 1091 = .ok (.aload_n 0, 1) := by decide +kernel
theorem dL_law_1092 : decode cL_law 1092 = .ok (.iload 4, 2) := by decide +kernel
theorem dL_law_1094 : decode cL_law 1094 = .ok (.iconst 2, 1) := by decide +kernel
theorem dL_law_1095 : decode cL_law 1095 = .ok (.iadd, 1) := by decide +kernel
theorem dL_law_1096 : decode cL_law 1096 = .ok (.iaload, 1) := by decide +kernel
theorem dL_law_1097 : decode cL_law 1097 = .ok (.aload_n 3, 1) := by decide +kernel
theorem dL_law_1098 : decode cL_law 1098 = .ok (.invokestatic 127, 3) := by decide +kernel
theorem dL_law_1101 : decode cL_law 1101 = .ok (.istore 5, 2) := by decide +kernel
theorem dL_law_1103 : decode cL_law 1103 = .ok (.aload_n 2, 1) := by decide +kernel
theorem dL_law_1104 : decode cL_law 1104 = .ok (.aload_n 0, 1) := by decide +kernel
theorem dL_law_1105 : decode cL_law 1105 = .ok (.iload 4, 2) := by decide +kernel
theorem dL_law_1107 : decode cL_law 1107 = .ok (.iconst 1, 1) := by decide +kernel
theorem dL_law_1108 : decode cL_law 1108 = .ok (.iadd, 1) := by decide +kernel
theorem dL_law_1109 : decode cL_law 1109 = .ok (.iaload, 1) := by decide +kernel
theorem dL_law_1110 : decode cL_law 1110 = .ok (.aload_n 0, 1) := by decide +kernel
theorem dL_law_1111 : decode cL_law 1111 = .ok (.iload 4, 2) := by decide +kernel
theorem dL_law_1113 : decode cL_law 1113 = .ok (.iconst 2, 1) := by decide +kernel
theorem dL_law_1114 : decode cL_law 1114 = .ok (.iadd, 1) := by decide +kernel
theorem dL_law_1115 : decode cL_law 1115 = .ok (.iaload, 1) := by decide +kernel
theorem dL_law_1116 : decode cL_law 1116 = .ok (.invokevirtual 129, 3) := by decide +kernel
theorem dL_law_1119 : decode cL_law 1119 = .ok (.istore 6, 2) := by decide +kernel
theorem dL_law_1121 : decode cL_law 1121 = .ok (.aload_n 2, 1) := by decide +kernel
theorem dL_law_1122 : decode cL_law 1122 = .ok (.invokevirtual 80, 3) := by decide +kernel
theorem dL_law_1125 : decode cL_law 1125 = .ok (.iload 5, 2) := by decide +kernel
theorem dL_law_1127 : decode cL_law 1127 = .ok (.if_icmp .eq 5, 3) := by decide +kernel
theorem dL_law_1130 : decode cL_law 1130 = .ok (.iconst 0, 1) := by decide +kernel
theorem dL_law_1131 : decode cL_law 1131 = .ok (.ireturn, 1) := by decide +kernel
theorem dL_law_1132 : decode cL_law 1132 = .ok (.iload 5, 2) := by decide +kernel
theorem dL_law_1134 : decode cL_law 1134 = .ok (.ifCond .ne 15, 3) := by decide +kernel
theorem dL_law_1137 : decode cL_law 1137 = .ok (.aload_n 3, 1) := by decide +kernel
theorem dL_law_1138 : decode cL_law 1138 = .ok (.iconst 0, 1) := by decide +kernel
theorem dL_law_1139 : decode cL_law 1139 = .ok (.laload, 1) := by decide +kernel
theorem dL_law_1140 : decode cL_law 1140 = .ok (.iload 6, 2) := by decide +kernel
theorem dL_law_1142 : decode cL_law 1142 = .ok (.i2l, 1) := by decide +kernel
theorem dL_law_1143 : decode cL_law 1143 = .ok (.lcmp, 1) := by decide +kernel
theorem dL_law_1144 : decode cL_law 1144 = .ok (.ifCond .eq 5, 3) := by decide +kernel
theorem dL_law_1147 : decode cL_law 1147 = .ok (.iconst 0, 1) := by decide +kernel
theorem dL_law_1148 : decode cL_law 1148 = .ok (.ireturn, 1) := by decide +kernel
theorem dL_law_1149 : decode cL_law 1149 = .ok (.goto 59, 3) := by decide +kernel
theorem dL_law_1152 : decode cL_law 1152 = .ok (.aload_n 1, 1) := by decide +kernel
theorem dL_law_1153 : decode cL_law 1153 = .ok (.aload_n 0, 1) := by decide +kernel
theorem dL_law_1154 : decode cL_law 1154 = .ok (.iload 4, 2) := by decide +kernel
theorem dL_law_1156 : decode cL_law 1156 = .ok (.iconst 1, 1) := by decide +kernel
theorem dL_law_1157 : decode cL_law 1157 = .ok (.iadd, 1) := by decide +kernel
theorem dL_law_1158 : decode cL_law 1158 = .ok (.iaload, 1) := by decide +kernel
theorem dL_law_1159 : decode cL_law 1159 = .ok (.aload_n 3, 1) := by decide +kernel
theorem dL_law_1160 : decode cL_law 1160 = .ok (.invokestatic 130, 3) := by decide +kernel
theorem dL_law_1163 : decode cL_law 1163 = .ok (.istore 5, 2) := by decide +kernel
theorem dL_law_1165 : decode cL_law 1165 = .ok (.aload_n 2, 1) := by decide +kernel
theorem dL_law_1166 : decode cL_law 1166 = .ok (.aload_n 0, 1) := by decide +kernel
theorem dL_law_1167 : decode cL_law 1167 = .ok (.iload 4, 2) := by decide +kernel
theorem dL_law_1169 : decode cL_law 1169 = .ok (.iconst 1, 1) := by decide +kernel
theorem dL_law_1170 : decode cL_law 1170 = .ok (.iadd, 1) := by decide +kernel
theorem dL_law_1171 : decode cL_law 1171 = .ok (.iaload, 1) := by decide +kernel
theorem dL_law_1172 : decode cL_law 1172 = .ok (.invokevirtual 132, 3) := by decide +kernel
theorem dL_law_1175 : decode cL_law 1175 = .ok (.istore 6, 2) := by decide +kernel
theorem dL_law_1177 : decode cL_law 1177 = .ok (.aload_n 2, 1) := by decide +kernel
theorem dL_law_1178 : decode cL_law 1178 = .ok (.invokevirtual 80, 3) := by decide +kernel
theorem dL_law_1181 : decode cL_law 1181 = .ok (.iload 5, 2) := by decide +kernel
theorem dL_law_1183 : decode cL_law 1183 = .ok (.if_icmp .eq 5, 3) := by decide +kernel
theorem dL_law_1186 : decode cL_law 1186 = .ok (.iconst 0, 1) := by decide +kernel
theorem dL_law_1187 : decode cL_law 1187 = .ok (.ireturn, 1) := by decide +kernel
theorem dL_law_1188 : decode cL_law 1188 = .ok (.iload 5, 2) := by decide +kernel
theorem dL_law_1190 : decode cL_law 1190 = .ok (.ifCond .ne 15, 3) := by decide +kernel
theorem dL_law_1193 : decode cL_law 1193 = .ok (.aload_n 3, 1) := by decide +kernel
theorem dL_law_1194 : decode cL_law 1194 = .ok (.iconst 0, 1) := by decide +kernel
theorem dL_law_1195 : decode cL_law 1195 = .ok (.laload, 1) := by decide +kernel
theorem dL_law_1196 : decode cL_law 1196 = .ok (.iload 6, 2) := by decide +kernel
theorem dL_law_1198 : decode cL_law 1198 = .ok (.i2l, 1) := by decide +kernel
theorem dL_law_1199 : decode cL_law 1199 = .ok (.lcmp, 1) := by decide +kernel
theorem dL_law_1200 : decode cL_law 1200 = .ok (.ifCond .eq 5, 3) := by decide +kernel
theorem dL_law_1203 : decode cL_law 1203 = .ok (.iconst 0, 1) := by decide +kernel
theorem dL_law_1204 : decode cL_law 1204 = .ok (.ireturn, 1) := by decide +kernel
theorem dL_law_1205 : decode cL_law 1205 = .ok (.goto 3, 3) := by decide +kernel
theorem dL_law_1208 : decode cL_law 1208 = .ok (.iinc 4 5, 3) := by decide +kernel
theorem dL_law_1211 : decode cL_law 1211 = .ok (.goto (-1188), 3) := by decide +kernel
theorem dL_law_1214 : decode cL_law 1214 = .ok (.iconst 1, 1) := by decide +kernel
theorem dL_law_1215 : decode cL_law 1215 = .ok (.ireturn, 1) := by decide +kernel
