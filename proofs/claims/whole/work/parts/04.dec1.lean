set_option maxRecDepth 20000 in
theorem ggX0_put_X0_fitted : GoodIn wsX0_put wsX0_fitted := goodIn_r _ [5, 6, 7, 8, 9, 10, 11, 12, 13, 14, 15] (by decide +kernel) (by decide +kernel)
set_option maxRecDepth 20000 in
theorem gX0_put_X0_fitted : GoodIn wsX0_put (va_wsS RX0 81 yX0_fitted wsX0_fitted) := goodIn_app (goodIn_of _ (by decide +kernel)) ggX0_put_X0_fitted
set_option maxRecDepth 20000 in
theorem ggX0_put_X0_reelIndex : GoodIn wsX0_put wsX0_reelIndex := goodIn_r _ [18] (by decide +kernel) (by decide +kernel)
set_option maxRecDepth 20000 in
theorem gX0_put_X0_reelIndex : GoodIn wsX0_put (va_wsS RX0 62 yX0_reelIndex wsX0_reelIndex) := goodIn_app (goodIn_of _ (by decide +kernel)) ggX0_put_X0_reelIndex
theorem dX0_put_0 : decode cX0_put 0 = .ok (.iload_n 1, 1) := by decide +kernel
theorem dX0_put_1 : decode cX0_put 1 = .ok (.iload_n 3, 1) := by decide +kernel
theorem dX0_put_2 : decode cX0_put 2 = .ok (.invokestatic 81, 3) := by decide +kernel
theorem dX0_put_5 : decode cX0_put 5 = .ok (.istore 4, 2) := by decide +kernel
theorem dX0_put_7 : decode cX0_put 7 = .ok (.aload_n 0, 1) := by decide +kernel
theorem dX0_put_8 : decode cX0_put 8 = .ok (.getfield 9, 3) := by decide +kernel
theorem dX0_put_11 : decode cX0_put 11 = .ok (.iload_n 1, 1) := by decide +kernel
theorem dX0_put_12 : decode cX0_put 12 = .ok (.iload_n 2, 1) := by decide +kernel
theorem dX0_put_13 : decode cX0_put 13 = .ok (.invokestatic 62, 3) := by decide +kernel
theorem dX0_put_16 : decode cX0_put 16 = .ok (.iload 4, 2) := by decide +kernel
theorem dX0_put_18 : decode cX0_put 18 = .ok (.iastore, 1) := by decide +kernel
theorem dX0_put_19 : decode cX0_put 19 = .ok (.iload 4, 2) := by decide +kernel
theorem dX0_put_21 : decode cX0_put 21 = .ok (.ireturn, 1) := by decide +kernel
theorem dX0_combined_0 : decode cX0_combined 0 = .ok (.iload_n 1, 1) := by decide +kernel
theorem dX0_combined_1 : decode cX0_combined 1 = .ok (.tableswitch 79 0 7 #[47, 51, 55, 59, 63, 67, 71, 75], 47) := by decide +kernel
theorem dX0_combined_48 : decode cX0_combined 48 = .ok (.iload_n 0, 1) := by decide +kernel
theorem dX0_combined_49 : decode cX0_combined 49 = .ok (.iload_n 2, 1) := by decide +kernel
theorem dX0_combined_50 : decode cX0_combined 50 = .ok (.iadd, 1) := by decide +kernel
theorem dX0_combined_51 : decode cX0_combined 51 = .ok (.ireturn, 1) := by decide +kernel
theorem dX0_combined_52 : decode cX0_combined 52 = .ok (.iload_n 0, 1) := by decide +kernel
theorem dX0_combined_53 : decode cX0_combined 53 = .ok (.iload_n 2, 1) := by decide +kernel
theorem dX0_combined_54 : decode cX0_combined 54 = .ok (.isub, 1) := by decide +kernel
theorem dX0_combined_55 : decode cX0_combined 55 = .ok (.ireturn, 1) := by decide +kernel
theorem dX0_combined_56 : decode cX0_combined 56 = .ok (.iload_n 0, 1) := by decide +kernel
theorem dX0_combined_57 : decode cX0_combined 57 = .ok (.iload_n 2, 1) := by decide +kernel
theorem dX0_combined_58 : decode cX0_combined 58 = .ok (.imul, 1) := by decide +kernel
theorem dX0_combined_59 : decode cX0_combined 59 = .ok (.ireturn, 1) := by decide +kernel
theorem dX0_combined_60 : decode cX0_combined 60 = .ok (.iload_n 0, 1) := by decide +kernel
theorem dX0_combined_61 : decode cX0_combined 61 = .ok (.iload_n 2, 1) := by decide +kernel
theorem dX0_combined_62 : decode cX0_combined 62 = .ok (.iand, 1) := by decide +kernel
theorem dX0_combined_63 : decode cX0_combined 63 = .ok (.ireturn, 1) := by decide +kernel
theorem dX0_combined_64 : decode cX0_combined 64 = .ok (.iload_n 0, 1) := by decide +kernel
theorem dX0_combined_65 : decode cX0_combined 65 = .ok (.iload_n 2, 1) := by decide +kernel
theorem dX0_combined_66 : decode cX0_combined 66 = .ok (.ior, 1) := by decide +kernel
theorem dX0_combined_67 : decode cX0_combined 67 = .ok (.ireturn, 1) := by decide +kernel
theorem dX0_combined_68 : decode cX0_combined 68 = .ok (.iload_n 0, 1) := by decide +kernel
theorem dX0_combined_69 : decode cX0_combined 69 = .ok (.iload_n 2, 1) := by decide +kernel
theorem dX0_combined_70 : decode cX0_combined 70 = .ok (.ixor, 1) := by decide +kernel
theorem dX0_combined_71 : decode cX0_combined 71 = .ok (.ireturn, 1) := by decide +kernel
theorem dX0_combined_72 : decode cX0_combined 72 = .ok (.iload_n 0, 1) := by decide +kernel
theorem dX0_combined_73 : decode cX0_combined 73 = .ok (.iload_n 2, 1) := by decide +kernel
theorem dX0_combined_74 : decode cX0_combined 74 = .ok (.ishl, 1) := by decide +kernel
theorem dX0_combined_75 : decode cX0_combined 75 = .ok (.ireturn, 1) := by decide +kernel
theorem dX0_combined_76 : decode cX0_combined 76 = .ok (.iload_n 0, 1) := by decide +kernel
theorem dX0_combined_77 : decode cX0_combined 77 = .ok (.iload_n 2, 1) := by decide +kernel
theorem dX0_combined_78 : decode cX0_combined 78 = .ok (.ishr, 1) := by decide +kernel
theorem dX0_combined_79 : decode cX0_combined 79 = .ok (.ireturn, 1) := by decide +kernel
theorem dX0_combined_80 : decode cX0_combined 80 = .ok (.iload_n 0, 1) := by decide +kernel
theorem dX0_combined_81 : decode cX0_combined 81 = .ok (.iload_n 2, 1) := by decide +kernel
theorem dX0_combined_82 : decode cX0_combined 82 = .ok (.iushr, 1) := by decide +kernel
theorem dX0_combined_83 : decode cX0_combined 83 = .ok (.ireturn, 1) := by decide +kernel
set_option maxRecDepth 20000 in
theorem ggX0_passesColumn_X0_stopsAtReel : GoodIn wsX0_passesColumn wsX0_stopsAtReel := goodIn_r _ [7, 8, 9, 10, 43, 44, 45, 46, 47, 48, 49, 50, 51, 52, 53] (by decide +kernel) (by decide +kernel)
set_option maxRecDepth 20000 in
theorem gX0_passesColumn_X0_stopsAtReel : GoodIn wsX0_passesColumn (wsV RX0 171 RX0 yX0_stopsAtReel wsX0_stopsAtReel) := goodIn_app (goodIn_of _ (by decide +kernel)) ggX0_passesColumn_X0_stopsAtReel
set_option maxRecDepth 20000 in
theorem ggX0_passesColumn_X0_reelIndex : GoodIn wsX0_passesColumn wsX0_reelIndex := goodIn_r _ [13] (by decide +kernel) (by decide +kernel)
set_option maxRecDepth 20000 in
theorem gX0_passesColumn_X0_reelIndex : GoodIn wsX0_passesColumn (va_wsS RX0 62 yX0_reelIndex wsX0_reelIndex) := goodIn_app (goodIn_of _ (by decide +kernel)) ggX0_passesColumn_X0_reelIndex
set_option maxRecDepth 20000 in
theorem ggX0_passesColumn_X0_stopsAtRow : GoodIn wsX0_passesColumn wsX0_stopsAtRow := goodIn_r _ [17, 18, 9, 10, 43, 44, 45, 46, 47, 48, 49, 50, 51, 52, 53] (by decide +kernel) (by decide +kernel)
set_option maxRecDepth 20000 in
theorem gX0_passesColumn_X0_stopsAtRow : GoodIn wsX0_passesColumn (wsV RX0 175 RX0 yX0_stopsAtRow wsX0_stopsAtRow) := goodIn_app (goodIn_of _ (by decide +kernel)) ggX0_passesColumn_X0_stopsAtRow
set_option maxRecDepth 20000 in
theorem ggX0_passesColumn_X0_clothIndex : GoodIn wsX0_passesColumn wsX0_clothIndex := goodIn_r _ [21] (by decide +kernel) (by decide +kernel)
set_option maxRecDepth 20000 in
theorem gX0_passesColumn_X0_clothIndex : GoodIn wsX0_passesColumn (va_wsS RX0 115 yX0_clothIndex wsX0_clothIndex) := goodIn_app (goodIn_of _ (by decide +kernel)) ggX0_passesColumn_X0_clothIndex
set_option maxRecDepth 20000 in
theorem ggX0_passesColumn_X0_addsInPass : GoodIn wsX0_passesColumn wsX0_addsInPass := goodIn_r _ [25, 1, 3, 4, 5, 6, 7, 8, 9, 10, 11, 12, 13, 26, 27, 28, 29, 30, 31, 32, 33, 34, 35, 36, 37, 38, 39, 40, 41, 42, 43, 44, 45, 46, 47, 48, 49, 50, 51, 52, 53] (by decide +kernel) (by decide +kernel)
set_option maxRecDepth 20000 in
theorem gX0_passesColumn_X0_addsInPass : GoodIn wsX0_passesColumn (wsV RX0 179 RX0 yX0_addsInPass wsX0_addsInPass) := goodIn_app (goodIn_of _ (by decide +kernel)) ggX0_passesColumn_X0_addsInPass
theorem dX0_passesColumn_0 : decode cX0_passesColumn 0 = .ok (.aload_n 0, 1) := by decide +kernel
theorem dX0_passesColumn_1 : decode cX0_passesColumn 1 = .ok (.iconst 3, 1) := by decide +kernel
theorem dX0_passesColumn_2 : decode cX0_passesColumn 2 = .ok (.iload_n 2, 1) := by decide +kernel
theorem dX0_passesColumn_3 : decode cX0_passesColumn 3 = .ok (.invokevirtual 171, 3) := by decide +kernel
theorem dX0_passesColumn_6 : decode cX0_passesColumn 6 = .ok (.ifCond .eq 5, 3) := by decide +kernel
theorem dX0_passesColumn_9 : decode cX0_passesColumn 9 = .ok (.iconst 0, 1) := by decide +kernel
theorem dX0_passesColumn_10 : decode cX0_passesColumn 10 = .ok (.ireturn, 1) := by decide +kernel
theorem dX0_passesColumn_11 : decode cX0_passesColumn 11 = .ok (.aload_n 0, 1) := by decide +kernel
theorem dX0_passesColumn_12 : decode cX0_passesColumn 12 = .ok (.getfield 9, 3) := by decide +kernel
theorem dX0_passesColumn_15 : decode cX0_passesColumn 15 = .ok (.iconst 3, 1) := by decide +kernel
theorem dX0_passesColumn_16 : decode cX0_passesColumn 16 = .ok (.iload_n 2, 1) := by decide +kernel
theorem dX0_passesColumn_17 : decode cX0_passesColumn 17 = .ok (.invokestatic 62, 3) := by decide +kernel
theorem dX0_passesColumn_20 : decode cX0_passesColumn 20 = .ok (.iaload, 1) := by decide +kernel
theorem dX0_passesColumn_21 : decode cX0_passesColumn 21 = .ok (.iconst 1, 1) := by decide +kernel
theorem dX0_passesColumn_22 : decode cX0_passesColumn 22 = .ok (.if_icmp .ne 7, 3) := by decide +kernel
theorem dX0_passesColumn_25 : decode cX0_passesColumn 25 = .ok (.iconst 1, 1) := by decide +kernel
theorem dX0_passesColumn_26 : decode cX0_passesColumn 26 = .ok (.goto 4, 3) := by decide +kernel
theorem dX0_passesColumn_29 : decode cX0_passesColumn 29 = .ok (.iconst 0, 1) := by decide +kernel
theorem dX0_passesColumn_30 : decode cX0_passesColumn 30 = .ok (.istore 4, 2) := by decide +kernel
theorem dX0_passesColumn_32 : decode cX0_passesColumn 32 = .ok (.iload 4, 2) := by decide +kernel
theorem dX0_passesColumn_34 : decode cX0_passesColumn 34 = .ok (.ifCond .eq 14, 3) := by decide +kernel
theorem dX0_passesColumn_37 : decode cX0_passesColumn 37 = .ok (.aload_n 0, 1) := by decide +kernel
theorem dX0_passesColumn_38 : decode cX0_passesColumn 38 = .ok (.iconst 0, 1) := by decide +kernel
theorem dX0_passesColumn_39 : decode cX0_passesColumn 39 = .ok (.iload_n 2, 1) := by decide +kernel
theorem dX0_passesColumn_40 : decode cX0_passesColumn 40 = .ok (.invokevirtual 171, 3) := by decide +kernel
theorem dX0_passesColumn_43 : decode cX0_passesColumn 43 = .ok (.ifCond .eq 5, 3) := by decide +kernel
theorem dX0_passesColumn_46 : decode cX0_passesColumn 46 = .ok (.iconst 0, 1) := by decide +kernel
theorem dX0_passesColumn_47 : decode cX0_passesColumn 47 = .ok (.ireturn, 1) := by decide +kernel
theorem dX0_passesColumn_48 : decode cX0_passesColumn 48 = .ok (.aload_n 0, 1) := by decide +kernel
theorem dX0_passesColumn_49 : decode cX0_passesColumn 49 = .ok (.iload_n 1, 1) := by decide +kernel
theorem dX0_passesColumn_50 : decode cX0_passesColumn 50 = .ok (.invokevirtual 175, 3) := by decide +kernel
theorem dX0_passesColumn_53 : decode cX0_passesColumn 53 = .ok (.ifCond .eq 5, 3) := by decide +kernel
theorem dX0_passesColumn_56 : decode cX0_passesColumn 56 = .ok (.iconst 0, 1) := by decide +kernel
theorem dX0_passesColumn_57 : decode cX0_passesColumn 57 = .ok (.ireturn, 1) := by decide +kernel
theorem dX0_passesColumn_58 : decode cX0_passesColumn 58 = .ok (.aload_n 0, 1) := by decide +kernel
theorem dX0_passesColumn_59 : decode cX0_passesColumn 59 = .ok (.getfield 28, 3) := by decide +kernel
theorem dX0_passesColumn_62 : decode cX0_passesColumn 62 = .ok (.iload_n 1, 1) := by decide +kernel
theorem dX0_passesColumn_63 : decode cX0_passesColumn 63 = .ok (.iload_n 2, 1) := by decide +kernel
theorem dX0_passesColumn_64 : decode cX0_passesColumn 64 = .ok (.invokestatic 115, 3) := by decide +kernel
theorem dX0_passesColumn_67 : decode cX0_passesColumn 67 = .ok (.iload 4, 2) := by decide +kernel
theorem dX0_passesColumn_69 : decode cX0_passesColumn 69 = .ok (.ifCond .eq 16, 3) := by decide +kernel
theorem dX0_passesColumn_72 : decode cX0_passesColumn 72 = .ok (.aload_n 0, 1) := by decide +kernel
theorem dX0_passesColumn_73 : decode cX0_passesColumn 73 = .ok (.getfield 9, 3) := by decide +kernel
theorem dX0_passesColumn_76 : decode cX0_passesColumn 76 = .ok (.iconst 0, 1) := by decide +kernel
theorem dX0_passesColumn_77 : decode cX0_passesColumn 77 = .ok (.iload_n 2, 1) := by decide +kernel
theorem dX0_passesColumn_78 : decode cX0_passesColumn 78 = .ok (.invokestatic 62, 3) := by decide +kernel
theorem dX0_passesColumn_81 : decode cX0_passesColumn 81 = .ok (.iaload, 1) := by decide +kernel
theorem dX0_passesColumn_82 : decode cX0_passesColumn 82 = .ok (.goto 4, 3) := by decide +kernel
theorem dX0_passesColumn_85 : decode cX0_passesColumn 85 = .ok (.iload_n 3, 1) := by decide +kernel
theorem dX0_passesColumn_86 : decode cX0_passesColumn 86 = .ok (.iastore, 1) := by decide +kernel
theorem dX0_passesColumn_87 : decode cX0_passesColumn 87 = .ok (.aload_n 0, 1) := by decide +kernel
theorem dX0_passesColumn_88 : decode cX0_passesColumn 88 = .ok (.iconst 1, 1) := by decide +kernel
theorem dX0_passesColumn_89 : decode cX0_passesColumn 89 = .ok (.iload_n 2, 1) := by decide +kernel
theorem dX0_passesColumn_90 : decode cX0_passesColumn 90 = .ok (.iconst 1, 1) := by decide +kernel
theorem dX0_passesColumn_91 : decode cX0_passesColumn 91 = .ok (.invokevirtual 179, 3) := by decide +kernel
theorem dX0_passesColumn_94 : decode cX0_passesColumn 94 = .ok (.ifCond .eq 41, 3) := by decide +kernel
theorem dX0_passesColumn_97 : decode cX0_passesColumn 97 = .ok (.aload_n 0, 1) := by decide +kernel
theorem dX0_passesColumn_98 : decode cX0_passesColumn 98 = .ok (.iconst 2, 1) := by decide +kernel
theorem dX0_passesColumn_99 : decode cX0_passesColumn 99 = .ok (.iload_n 2, 1) := by decide +kernel
theorem dX0_passesColumn_100 : decode cX0_passesColumn 100 = .ok (.iload 4, 2) := by decide +kernel
theorem dX0_passesColumn_102 : decode cX0_passesColumn 102 = .ok (.ifCond .eq 7, 3) := by decide +kernel
theorem dX0_passesColumn_105 : decode cX0_passesColumn 105 = .ok (.iconst 2, 1) := by decide +kernel
theorem dX0_passesColumn_106 : decode cX0_passesColumn 106 = .ok (.goto 4, 3) := by decide +kernel
theorem dX0_passesColumn_109 : decode cX0_passesColumn 109 = .ok (.iconst (-1), 1) := by decide +kernel
theorem dX0_passesColumn_110 : decode cX0_passesColumn 110 = .ok (.invokevirtual 179, 3) := by decide +kernel
theorem dX0_passesColumn_113 : decode cX0_passesColumn 113 = .ok (.ifCond .eq 22, 3) := by decide +kernel
theorem dX0_passesColumn_116 : decode cX0_passesColumn 116 = .ok (.iload 4, 2) := by decide +kernel
theorem dX0_passesColumn_118 : decode cX0_passesColumn 118 = .ok (.ifCond .eq 13, 3) := by decide +kernel
theorem dX0_passesColumn_121 : decode cX0_passesColumn 121 = .ok (.aload_n 0, 1) := by decide +kernel
theorem dX0_passesColumn_122 : decode cX0_passesColumn 122 = .ok (.iconst 4, 1) := by decide +kernel
theorem dX0_passesColumn_123 : decode cX0_passesColumn 123 = .ok (.iload_n 2, 1) := by decide +kernel
theorem dX0_passesColumn_124 : decode cX0_passesColumn 124 = .ok (.iconst 1, 1) := by decide +kernel
theorem dX0_passesColumn_125 : decode cX0_passesColumn 125 = .ok (.invokevirtual 179, 3) := by decide +kernel
theorem dX0_passesColumn_128 : decode cX0_passesColumn 128 = .ok (.ifCond .eq 7, 3) := by decide +kernel
theorem dX0_passesColumn_131 : decode cX0_passesColumn 131 = .ok (.iconst 1, 1) := by decide +kernel
theorem dX0_passesColumn_132 : decode cX0_passesColumn 132 = .ok (.goto 4, 3) := by decide +kernel
theorem dX0_passesColumn_135 : decode cX0_passesColumn 135 = .ok (.iconst 0, 1) := by decide +kernel
theorem dX0_passesColumn_136 : decode cX0_passesColumn 136 = .ok (.ireturn, 1) := by decide +kernel
set_option maxRecDepth 20000 in
theorem ggX0_addsInPass_X0_stopsAtReel : GoodIn wsX0_addsInPass wsX0_stopsAtReel := goodIn_r _ [6, 7, 8, 9, 30, 31, 32, 33, 34, 35, 36, 37, 38, 39, 40] (by decide +kernel) (by decide +kernel)
set_option maxRecDepth 20000 in
theorem gX0_addsInPass_X0_stopsAtReel : GoodIn wsX0_addsInPass (wsV RX0 171 RX0 yX0_stopsAtReel wsX0_stopsAtReel) := goodIn_app (goodIn_of _ (by decide +kernel)) ggX0_addsInPass_X0_stopsAtReel
set_option maxRecDepth 20000 in
theorem ggX0_addsInPass_X0_reelIndex : GoodIn wsX0_addsInPass wsX0_reelIndex := goodIn_r _ [12] (by decide +kernel) (by decide +kernel)
set_option maxRecDepth 20000 in
theorem gX0_addsInPass_X0_reelIndex : GoodIn wsX0_addsInPass (va_wsS RX0 62 yX0_reelIndex wsX0_reelIndex) := goodIn_app (goodIn_of _ (by decide +kernel)) ggX0_addsInPass_X0_reelIndex
set_option maxRecDepth 20000 in
theorem ggX0_addsInPass_X0_put : GoodIn wsX0_addsInPass wsX0_put := goodIn_r _ [16, 1, 17, 18, 5, 19, 20, 21, 22, 23, 24, 25, 26, 27, 28, 29, 10, 11, 12, 30, 31, 32, 33, 34, 35, 36, 37, 38, 39, 40] (by decide +kernel) (by decide +kernel)
set_option maxRecDepth 20000 in
theorem gX0_addsInPass_X0_put : GoodIn wsX0_addsInPass (wsV RX0 73 RX0 yX0_put wsX0_put) := goodIn_app (goodIn_of _ (by decide +kernel)) ggX0_addsInPass_X0_put
theorem dX0_addsInPass_0 : decode cX0_addsInPass 0 = .ok (.aload_n 0, 1) := by decide +kernel
theorem dX0_addsInPass_1 : decode cX0_addsInPass 1 = .ok (.iload_n 1, 1) := by decide +kernel
theorem dX0_addsInPass_2 : decode cX0_addsInPass 2 = .ok (.iload_n 2, 1) := by decide +kernel
theorem dX0_addsInPass_3 : decode cX0_addsInPass 3 = .ok (.invokevirtual 171, 3) := by decide +kernel
theorem dX0_addsInPass_6 : decode cX0_addsInPass 6 = .ok (.ifCond .eq 5, 3) := by decide +kernel
theorem dX0_addsInPass_9 : decode cX0_addsInPass 9 = .ok (.iconst 0, 1) := by decide +kernel
theorem dX0_addsInPass_10 : decode cX0_addsInPass 10 = .ok (.ireturn, 1) := by decide +kernel
theorem dX0_addsInPass_11 : decode cX0_addsInPass 11 = .ok (.aload_n 0, 1) := by decide +kernel
theorem dX0_addsInPass_12 : decode cX0_addsInPass 12 = .ok (.iload_n 1, 1) := by decide +kernel
theorem dX0_addsInPass_13 : decode cX0_addsInPass 13 = .ok (.iload_n 2, 1) := by decide +kernel
theorem dX0_addsInPass_14 : decode cX0_addsInPass 14 = .ok (.aload_n 0, 1) := by decide +kernel
theorem dX0_addsInPass_15 : decode cX0_addsInPass 15 = .ok (.getfield 9, 3) := by decide +kernel
theorem dX0_addsInPass_18 : decode cX0_addsInPass 18 = .ok (.iload_n 1, 1) := by decide +kernel
theorem dX0_addsInPass_19 : decode cX0_addsInPass 19 = .ok (.iload_n 2, 1) := by decide +kernel
theorem dX0_addsInPass_20 : decode cX0_addsInPass 20 = .ok (.invokestatic 62, 3) := by decide +kernel
theorem dX0_addsInPass_23 : decode cX0_addsInPass 23 = .ok (.iaload, 1) := by decide +kernel
theorem dX0_addsInPass_24 : decode cX0_addsInPass 24 = .ok (.iload_n 3, 1) := by decide +kernel
theorem dX0_addsInPass_25 : decode cX0_addsInPass 25 = .ok (.iadd, 1) := by decide +kernel
theorem dX0_addsInPass_26 : decode cX0_addsInPass 26 = .ok (.invokevirtual 73, 3) := by decide +kernel
theorem dX0_addsInPass_29 : decode cX0_addsInPass 29 = .ok (.pop, 1) := by decide +kernel
theorem dX0_addsInPass_30 : decode cX0_addsInPass 30 = .ok (.iconst 1, 1) := by decide +kernel
theorem dX0_addsInPass_31 : decode cX0_addsInPass 31 = .ok (.ireturn, 1) := by decide +kernel
theorem dX0_stopsAtReel_0 : decode cX0_stopsAtReel 0 = .ok (.iload_n 2, 1) := by decide +kernel
theorem dX0_stopsAtReel_1 : decode cX0_stopsAtReel 1 = .ok (.aload_n 0, 1) := by decide +kernel
theorem dX0_stopsAtReel_2 : decode cX0_stopsAtReel 2 = .ok (.getfield 13, 3) := by decide +kernel
theorem dX0_stopsAtReel_5 : decode cX0_stopsAtReel 5 = .ok (.iload_n 1, 1) := by decide +kernel
theorem dX0_stopsAtReel_6 : decode cX0_stopsAtReel 6 = .ok (.iaload, 1) := by decide +kernel
theorem dX0_stopsAtReel_7 : decode cX0_stopsAtReel 7 = .ok (.if_icmp .ge 5, 3) := by decide +kernel
theorem dX0_stopsAtReel_10 : decode cX0_stopsAtReel 10 = .ok (.iconst 0, 1) := by decide +kernel
theorem dX0_stopsAtReel_11 : decode cX0_stopsAtReel 11 = .ok (.ireturn, 1) := by decide +kernel
theorem dX0_stopsAtReel_12 : decode cX0_stopsAtReel 12 = .ok (.aload_n 0, 1) := by decide +kernel
theorem dX0_stopsAtReel_13 : decode cX0_stopsAtReel 13 = .ok (.aload_n 0, 1) := by decide +kernel
theorem dX0_stopsAtReel_14 : decode cX0_stopsAtReel 14 = .ok (.getfield 13, 3) := by decide +kernel
theorem dX0_stopsAtReel_17 : decode cX0_stopsAtReel 17 = .ok (.iload_n 1, 1) := by decide +kernel
theorem dX0_stopsAtReel_18 : decode cX0_stopsAtReel 18 = .ok (.iaload, 1) := by decide +kernel
theorem dX0_stopsAtReel_19 : decode cX0_stopsAtReel 19 = .ok (.iconst (-1), 1) := by decide +kernel
theorem dX0_stopsAtReel_20 : decode cX0_stopsAtReel 20 = .ok (.if_icmp .ne 7, 3) := by decide +kernel
theorem dX0_stopsAtReel_23 : decode cX0_stopsAtReel 23 = .ok (.iconst 1, 1) := by decide +kernel
theorem dX0_stopsAtReel_24 : decode cX0_stopsAtReel 24 = .ok (.goto 4, 3) := by decide +kernel
theorem dX0_stopsAtReel_27 : decode cX0_stopsAtReel 27 = .ok (.iconst 2, 1) := by decide +kernel
theorem dX0_stopsAtReel_28 : decode cX0_stopsAtReel 28 = .ok (.putfield 42, 3) := by decide +kernel
theorem dX0_stopsAtReel_31 : decode cX0_stopsAtReel 31 = .ok (.aload_n 0, 1) := by decide +kernel
theorem dX0_stopsAtReel_32 : decode cX0_stopsAtReel 32 = .ok (.iload_n 1, 1) := by decide +kernel
theorem dX0_stopsAtReel_33 : decode cX0_stopsAtReel 33 = .ok (.putfield 45, 3) := by decide +kernel
theorem dX0_stopsAtReel_36 : decode cX0_stopsAtReel 36 = .ok (.iconst 1, 1) := by decide +kernel
theorem dX0_stopsAtReel_37 : decode cX0_stopsAtReel 37 = .ok (.ireturn, 1) := by decide +kernel
theorem dX0_stopsAtRow_0 : decode cX0_stopsAtRow 0 = .ok (.aload_n 0, 1) := by decide +kernel
theorem dX0_stopsAtRow_1 : decode cX0_stopsAtRow 1 = .ok (.getfield 31, 3) := by decide +kernel
theorem dX0_stopsAtRow_4 : decode cX0_stopsAtRow 4 = .ok (.iload_n 1, 1) := by decide +kernel
theorem dX0_stopsAtRow_5 : decode cX0_stopsAtRow 5 = .ok (.baload, 1) := by decide +kernel
theorem dX0_stopsAtRow_6 : decode cX0_stopsAtRow 6 = .ok (.ifCond .ne 5, 3) := by decide +kernel
theorem dX0_stopsAtRow_9 : decode cX0_stopsAtRow 9 = .ok (.iconst 0, 1) := by decide +kernel
theorem dX0_stopsAtRow_10 : decode cX0_stopsAtRow 10 = .ok (.ireturn, 1) := by decide +kernel
theorem dX0_stopsAtRow_11 : decode cX0_stopsAtRow 11 = .ok (.aload_n 0, 1) := by decide +kernel
theorem dX0_stopsAtRow_12 : decode cX0_stopsAtRow 12 = .ok (.iconst 1, 1) := by decide +kernel
theorem dX0_stopsAtRow_13 : decode cX0_stopsAtRow 13 = .ok (.putfield 42, 3) := by decide +kernel
theorem dX0_stopsAtRow_16 : decode cX0_stopsAtRow 16 = .ok (.aload_n 0, 1) := by decide +kernel
theorem dX0_stopsAtRow_17 : decode cX0_stopsAtRow 17 = .ok (.iconst 5, 1) := by decide +kernel
theorem dX0_stopsAtRow_18 : decode cX0_stopsAtRow 18 = .ok (.putfield 45, 3) := by decide +kernel
theorem dX0_stopsAtRow_21 : decode cX0_stopsAtRow 21 = .ok (.iconst 1, 1) := by decide +kernel
theorem dX0_stopsAtRow_22 : decode cX0_stopsAtRow 22 = .ok (.ireturn, 1) := by decide +kernel
set_option maxRecDepth 20000 in
theorem ggX0_weightedCells_X0_reelIndex : GoodIn wsX0_weightedCells wsX0_reelIndex := goodIn_r _ [6] (by decide +kernel) (by decide +kernel)
set_option maxRecDepth 20000 in
theorem gX0_weightedCells_X0_reelIndex : GoodIn wsX0_weightedCells (va_wsS RX0 62 yX0_reelIndex wsX0_reelIndex) := goodIn_app (goodIn_of _ (by decide +kernel)) ggX0_weightedCells_X0_reelIndex
theorem dX0_weightedCells_0 : decode cX0_weightedCells 0 = .ok (.iconst 0, 1) := by decide +kernel
theorem dX0_weightedCells_1 : decode cX0_weightedCells 1 = .ok (.istore_n 1, 1) := by decide +kernel
theorem dX0_weightedCells_2 : decode cX0_weightedCells 2 = .ok (.iconst 0, 1) := by decide +kernel
theorem dX0_weightedCells_3 : decode cX0_weightedCells 3 = .ok (.istore_n 2, 1) := by decide +kernel
theorem dX0_weightedCells_4 : decode cX0_weightedCells 4 = .ok (.iload_n 2, 1) := by decide +kernel
theorem dX0_weightedCells_5 : decode cX0_weightedCells 5 = .ok (.iconst 5, 1) := by decide +kernel
theorem dX0_weightedCells_6 : decode cX0_weightedCells 6 = .ok (.if_icmp .ge 44, 3) := by decide +kernel
theorem dX0_weightedCells_9 : decode cX0_weightedCells 9 = .ok (.iconst 0, 1) := by decide +kernel
theorem dX0_weightedCells_10 : decode cX0_weightedCells 10 = .ok (.istore_n 3, 1) := by decide +kernel
theorem dX0_weightedCells_11 : decode cX0_weightedCells 11 = .ok (.iload_n 3, 1) := by decide +kernel
theorem dX0_weightedCells_12 : decode cX0_weightedCells 12 = .ok (.aload_n 0, 1) := by decide +kernel
theorem dX0_weightedCells_13 : decode cX0_weightedCells 13 = .ok (.getfield 13, 3) := by decide +kernel
theorem dX0_weightedCells_16 : decode cX0_weightedCells 16 = .ok (.iload_n 2, 1) := by decide +kernel
theorem dX0_weightedCells_17 : decode cX0_weightedCells 17 = .ok (.iaload, 1) := by decide +kernel
theorem dX0_weightedCells_18 : decode cX0_weightedCells 18 = .ok (.if_icmp .ge 26, 3) := by decide +kernel
theorem dX0_weightedCells_21 : decode cX0_weightedCells 21 = .ok (.iload_n 1, 1) := by decide +kernel
theorem dX0_weightedCells_22 : decode cX0_weightedCells 22 = .ok (.iload_n 2, 1) := by decide +kernel
theorem dX0_weightedCells_23 : decode cX0_weightedCells 23 = .ok (.iconst 1, 1) := by decide +kernel
theorem dX0_weightedCells_24 : decode cX0_weightedCells 24 = .ok (.iadd, 1) := by decide +kernel
theorem dX0_weightedCells_25 : decode cX0_weightedCells 25 = .ok (.aload_n 0, 1) := by decide +kernel
theorem dX0_weightedCells_26 : decode cX0_weightedCells 26 = .ok (.getfield 9, 3) := by decide +kernel
theorem dX0_weightedCells_29 : decode cX0_weightedCells 29 = .ok (.iload_n 2, 1) := by decide +kernel
theorem dX0_weightedCells_30 : decode cX0_weightedCells 30 = .ok (.iload_n 3, 1) := by decide +kernel
theorem dX0_weightedCells_31 : decode cX0_weightedCells 31 = .ok (.invokestatic 62, 3) := by decide +kernel
theorem dX0_weightedCells_34 : decode cX0_weightedCells 34 = .ok (.iaload, 1) := by decide +kernel
theorem dX0_weightedCells_35 : decode cX0_weightedCells 35 = .ok (.imul, 1) := by decide +kernel
theorem dX0_weightedCells_36 : decode cX0_weightedCells 36 = .ok (.iadd, 1) := by decide +kernel
theorem dX0_weightedCells_37 : decode cX0_weightedCells 37 = .ok (.istore_n 1, 1) := by decide +kernel
theorem dX0_weightedCells_38 : decode cX0_weightedCells 38 = .ok (.iinc 3 1, 3) := by decide +kernel
theorem dX0_weightedCells_41 : decode cX0_weightedCells 41 = .ok (.goto (-30), 3) := by decide +kernel
theorem dX0_weightedCells_44 : decode cX0_weightedCells 44 = .ok (.iinc 2 1, 3) := by decide +kernel
theorem dX0_weightedCells_47 : decode cX0_weightedCells 47 = .ok (.goto (-43), 3) := by decide +kernel
theorem dX0_weightedCells_50 : decode cX0_weightedCells 50 = .ok (.iload_n 1, 1) := by decide +kernel
theorem dX0_weightedCells_51 : decode cX0_weightedCells 51 = .ok (.ireturn, 1) := by decide +kernel
theorem dX0_reelsOff_0 : decode cX0_reelsOff 0 = .ok (.iconst 0, 1) := by decide +kernel
theorem dX0_reelsOff_1 : decode cX0_reelsOff 1 = .ok (.istore_n 1, 1) := by decide +kernel
theorem dX0_reelsOff_2 : decode cX0_reelsOff 2 = .ok (.iconst 0, 1) := by decide +kernel
theorem dX0_reelsOff_3 : decode cX0_reelsOff 3 = .ok (.istore_n 2, 1) := by decide +kernel
theorem dX0_reelsOff_4 : decode cX0_reelsOff 4 = .ok (.iload_n 2, 1) := by decide +kernel
theorem dX0_reelsOff_5 : decode cX0_reelsOff 5 = .ok (.iconst 5, 1) := by decide +kernel
theorem dX0_reelsOff_6 : decode cX0_reelsOff 6 = .ok (.if_icmp .ge 22, 3) := by decide +kernel
theorem dX0_reelsOff_9 : decode cX0_reelsOff 9 = .ok (.aload_n 0, 1) := by decide +kernel
theorem dX0_reelsOff_10 : decode cX0_reelsOff 10 = .ok (.getfield 13, 3) := by decide +kernel
theorem dX0_reelsOff_13 : decode cX0_reelsOff 13 = .ok (.iload_n 2, 1) := by decide +kernel
theorem dX0_reelsOff_14 : decode cX0_reelsOff 14 = .ok (.iaload, 1) := by decide +kernel
theorem dX0_reelsOff_15 : decode cX0_reelsOff 15 = .ok (.iconst (-1), 1) := by decide +kernel
theorem dX0_reelsOff_16 : decode cX0_reelsOff 16 = .ok (.if_icmp .ne 6, 3) := by decide +kernel
theorem dX0_reelsOff_19 : decode cX0_reelsOff 19 = .ok (.iinc 1 1, 3) := by decide +kernel
theorem dX0_reelsOff_22 : decode cX0_reelsOff 22 = .ok (.iinc 2 1, 3) := by decide +kernel
theorem dX0_reelsOff_25 : decode cX0_reelsOff 25 = .ok (.goto (-21), 3) := by decide +kernel
theorem dX0_reelsOff_28 : decode cX0_reelsOff 28 = .ok (.iload_n 1, 1) := by decide +kernel
theorem dX0_reelsOff_29 : decode cX0_reelsOff 29 = .ok (.ireturn, 1) := by decide +kernel
theorem dX0_rowsCut_0 : decode cX0_rowsCut 0 = .ok (.aload_n 0, 1) := by decide +kernel
theorem dX0_rowsCut_1 : decode cX0_rowsCut 1 = .ok (.getfield 35, 3) := by decide +kernel
theorem dX0_rowsCut_4 : decode cX0_rowsCut 4 = .ok (.iconst (-1), 1) := by decide +kernel
theorem dX0_rowsCut_5 : decode cX0_rowsCut 5 = .ok (.if_icmp .ne 5, 3) := by decide +kernel
theorem dX0_rowsCut_8 : decode cX0_rowsCut 8 = .ok (.iconst (-1), 1) := by decide +kernel
theorem dX0_rowsCut_9 : decode cX0_rowsCut 9 = .ok (.ireturn, 1) := by decide +kernel
theorem dX0_rowsCut_10 : decode cX0_rowsCut 10 = .ok (.iconst 0, 1) := by decide +kernel
theorem dX0_rowsCut_11 : decode cX0_rowsCut 11 = .ok (.istore_n 1, 1) := by decide +kernel
theorem dX0_rowsCut_12 : decode cX0_rowsCut 12 = .ok (.iconst 0, 1) := by decide +kernel
theorem dX0_rowsCut_13 : decode cX0_rowsCut 13 = .ok (.istore_n 2, 1) := by decide +kernel
theorem dX0_rowsCut_14 : decode cX0_rowsCut 14 = .ok (.iload_n 2, 1) := by decide +kernel
theorem dX0_rowsCut_15 : decode cX0_rowsCut 15 = .ok (.aload_n 0, 1) := by decide +kernel
theorem dX0_rowsCut_16 : decode cX0_rowsCut 16 = .ok (.getfield 35, 3) := by decide +kernel
theorem dX0_rowsCut_19 : decode cX0_rowsCut 19 = .ok (.if_icmp .ge 21, 3) := by decide +kernel
theorem dX0_rowsCut_22 : decode cX0_rowsCut 22 = .ok (.aload_n 0, 1) := by decide +kernel
theorem dX0_rowsCut_23 : decode cX0_rowsCut 23 = .ok (.getfield 31, 3) := by decide +kernel
theorem dX0_rowsCut_26 : decode cX0_rowsCut 26 = .ok (.iload_n 2, 1) := by decide +kernel
theorem dX0_rowsCut_27 : decode cX0_rowsCut 27 = .ok (.baload, 1) := by decide +kernel
theorem dX0_rowsCut_28 : decode cX0_rowsCut 28 = .ok (.ifCond .eq 6, 3) := by decide +kernel
theorem dX0_rowsCut_31 : decode cX0_rowsCut 31 = .ok (.iinc 1 1, 3) := by decide +kernel
theorem dX0_rowsCut_34 : decode cX0_rowsCut 34 = .ok (.iinc 2 1, 3) := by decide +kernel
theorem dX0_rowsCut_37 : decode cX0_rowsCut 37 = .ok (.goto (-23), 3) := by decide +kernel
theorem dX0_rowsCut_40 : decode cX0_rowsCut 40 = .ok (.iload_n 1, 1) := by decide +kernel
theorem dX0_rowsCut_41 : decode cX0_rowsCut 41 = .ok (.ireturn, 1) := by decide +kernel
theorem dX1_init_0 : decode cX1_init 0 = .ok (.aload_n 0, 1) := by decide +kernel
theorem dX1_init_1 : decode cX1_init 1 = .ok (.invokespecial 1, 3) := by decide +kernel
theorem dX1_init_4 : decode cX1_init 4 = .ok (.aload_n 0, 1) := by decide +kernel
theorem dX1_init_5 : decode cX1_init 5 = .ok (.bipush 10, 2) := by decide +kernel
theorem dX1_init_7 : decode cX1_init 7 = .ok (.newarray .int, 2) := by decide +kernel
theorem dX1_init_9 : decode cX1_init 9 = .ok (.putfield 7, 3) := by decide +kernel
theorem dX1_init_12 : decode cX1_init 12 = .ok (.aload_n 0, 1) := by decide +kernel
theorem dX1_init_13 : decode cX1_init 13 = .ok (.sipush 640, 3) := by decide +kernel
theorem dX1_init_16 : decode cX1_init 16 = .ok (.newarray .int, 2) := by decide +kernel
theorem dX1_init_18 : decode cX1_init 18 = .ok (.putfield 13, 3) := by decide +kernel
theorem dX1_init_21 : decode cX1_init 21 = .ok (.aload_n 0, 1) := by decide +kernel
theorem dX1_init_22 : decode cX1_init 22 = .ok (.sipush 1600, 3) := by decide +kernel
theorem dX1_init_25 : decode cX1_init 25 = .ok (.newarray .int, 2) := by decide +kernel
theorem dX1_init_27 : decode cX1_init 27 = .ok (.putfield 16, 3) := by decide +kernel
theorem dX1_init_30 : decode cX1_init 30 = .ok (.aload_n 0, 1) := by decide +kernel
theorem dX1_init_31 : decode cX1_init 31 = .ok (.bipush 40, 2) := by decide +kernel
theorem dX1_init_33 : decode cX1_init 33 = .ok (.newarray .boolean, 2) := by decide +kernel
theorem dX1_init_35 : decode cX1_init 35 = .ok (.putfield 19, 3) := by decide +kernel
theorem dX1_init_38 : decode cX1_init 38 = .ok (.iconst 0, 1) := by decide +kernel
theorem dX1_init_39 : decode cX1_init 39 = .ok (.istore_n 1, 1) := by decide +kernel
theorem dX1_init_40 : decode cX1_init 40 = .ok (.iload_n 1, 1) := by decide +kernel
theorem dX1_init_41 : decode cX1_init 41 = .ok (.bipush 10, 2) := by decide +kernel
theorem dX1_init_43 : decode cX1_init 43 = .ok (.if_icmp .ge 16, 3) := by decide +kernel
theorem dX1_init_46 : decode cX1_init 46 = .ok (.aload_n 0, 1) := by decide +kernel
theorem dX1_init_47 : decode cX1_init 47 = .ok (.getfield 7, 3) := by decide +kernel
theorem dX1_init_50 : decode cX1_init 50 = .ok (.iload_n 1, 1) := by decide +kernel
theorem dX1_init_51 : decode cX1_init 51 = .ok (.iconst (-1), 1) := by decide +kernel
theorem dX1_init_52 : decode cX1_init 52 = .ok (.iastore, 1) := by decide +kernel
theorem dX1_init_53 : decode cX1_init 53 = .ok (.iinc 1 1, 3) := by decide +kernel
theorem dX1_init_56 : decode cX1_init 56 = .ok (.goto (-16), 3) := by decide +kernel
theorem dX1_init_59 : decode cX1_init 59 = .ok (.return_, 1) := by decide +kernel
theorem dX1_thrown_0 : decode cX1_thrown 0 = .ok (.aload_n 0, 1) := by decide +kernel
theorem dX1_thrown_1 : decode cX1_thrown 1 = .ok (.getfield 23, 3) := by decide +kernel
theorem dX1_thrown_4 : decode cX1_thrown 4 = .ok (.ireturn, 1) := by decide +kernel
theorem dX1_isSort_0 : decode cX1_isSort 0 = .ok (.iload_n 0, 1) := by decide +kernel
theorem dX1_isSort_1 : decode cX1_isSort 1 = .ok (.ifCond .lt 12, 3) := by decide +kernel
theorem dX1_isSort_4 : decode cX1_isSort 4 = .ok (.iload_n 0, 1) := by decide +kernel
theorem dX1_isSort_5 : decode cX1_isSort 5 = .ok (.iconst 5, 1) := by decide +kernel
theorem dX1_isSort_6 : decode cX1_isSort 6 = .ok (.if_icmp .ge 7, 3) := by decide +kernel
theorem dX1_isSort_9 : decode cX1_isSort 9 = .ok (.iconst 1, 1) := by decide +kernel
theorem dX1_isSort_10 : decode cX1_isSort 10 = .ok (.goto 4, 3) := by decide +kernel
theorem dX1_isSort_13 : decode cX1_isSort 13 = .ok (.iconst 0, 1) := by decide +kernel
theorem dX1_isSort_14 : decode cX1_isSort 14 = .ok (.ireturn, 1) := by decide +kernel
theorem dX1_within_0 : decode cX1_within 0 = .ok (.iload_n 0, 1) := by decide +kernel
theorem dX1_within_1 : decode cX1_within 1 = .ok (.iload_n 1, 1) := by decide +kernel
theorem dX1_within_2 : decode cX1_within 2 = .ok (.if_icmp .ge 7, 3) := by decide +kernel
theorem dX1_within_5 : decode cX1_within 5 = .ok (.iload_n 1, 1) := by decide +kernel
theorem dX1_within_6 : decode cX1_within 6 = .ok (.goto 13, 3) := by decide +kernel
theorem dX1_within_9 : decode cX1_within 9 = .ok (.iload_n 0, 1) := by decide +kernel
theorem dX1_within_10 : decode cX1_within 10 = .ok (.iload_n 2, 1) := by decide +kernel
theorem dX1_within_11 : decode cX1_within 11 = .ok (.if_icmp .le 7, 3) := by decide +kernel
theorem dX1_within_14 : decode cX1_within 14 = .ok (.iload_n 2, 1) := by decide +kernel
theorem dX1_within_15 : decode cX1_within 15 = .ok (.goto 4, 3) := by decide +kernel
theorem dX1_within_18 : decode cX1_within 18 = .ok (.iload_n 0, 1) := by decide +kernel
theorem dX1_within_19 : decode cX1_within 19 = .ok (.ireturn, 1) := by decide +kernel
set_option maxRecDepth 20000 in
theorem ggX1_held_X1_within : GoodIn wsX1_held wsX1_within := goodIn_r _ [9] (by decide +kernel) (by decide +kernel)
set_option maxRecDepth 20000 in
theorem gX1_held_X1_within : GoodIn wsX1_held (va_wsS RX1 32 yX1_within wsX1_within) := goodIn_app (goodIn_of _ (by decide +kernel)) ggX1_held_X1_within
theorem dX1_held_0 : decode cX1_held 0 = .ok (.iload_n 0, 1) := by decide +kernel
theorem dX1_held_1 : decode cX1_held 1 = .ok (.tableswitch 112 0 4 #[35, 40, 64, 73, 83], 35) := by decide +kernel
theorem dX1_held_36 : decode cX1_held 36 = .ok (.iload_n 1, 1) := by decide +kernel
theorem dX1_held_37 : decode cX1_held 37 = .ok (.ldc 27, 2) := by decide +kernel
theorem dX1_held_39 : decode cX1_held 39 = .ok (.iand, 1) := by decide +kernel
theorem dX1_held_40 : decode cX1_held 40 = .ok (.ireturn, 1) := by decide +kernel
theorem dX1_held_41 : decode cX1_held 41 = .ok (.iload_n 1, 1) := by decide +kernel
theorem dX1_held_42 : decode cX1_held 42 = .ok (.ldc 27, 2) := by decide +kernel
theorem dX1_held_44 : decode cX1_held 44 = .ok (.iand, 1) := by decide +kernel
theorem dX1_held_45 : decode cX1_held 45 = .ok (.ldc 28, 2) := by decide +kernel
theorem dX1_held_47 : decode cX1_held 47 = .ok (.if_icmp .ge 10, 3) := by decide +kernel
theorem dX1_held_50 : decode cX1_held 50 = .ok (.iload_n 1, 1) := by decide +kernel
theorem dX1_held_51 : decode cX1_held 51 = .ok (.ldc 27, 2) := by decide +kernel
theorem dX1_held_53 : decode cX1_held 53 = .ok (.iand, 1) := by decide +kernel
theorem dX1_held_54 : decode cX1_held 54 = .ok (.goto 10, 3) := by decide +kernel
theorem dX1_held_57 : decode cX1_held 57 = .ok (.iload_n 1, 1) := by decide +kernel
theorem dX1_held_58 : decode cX1_held 58 = .ok (.ldc 27, 2) := by decide +kernel
theorem dX1_held_60 : decode cX1_held 60 = .ok (.iand, 1) := by decide +kernel
theorem dX1_held_61 : decode cX1_held 61 = .ok (.ldc 29, 2) := by decide +kernel
theorem dX1_held_63 : decode cX1_held 63 = .ok (.isub, 1) := by decide +kernel
theorem dX1_held_64 : decode cX1_held 64 = .ok (.ireturn, 1) := by decide +kernel
theorem dX1_held_65 : decode cX1_held 65 = .ok (.iload_n 1, 1) := by decide +kernel
theorem dX1_held_66 : decode cX1_held 66 = .ok (.ldc 30, 2) := by decide +kernel
theorem dX1_held_68 : decode cX1_held 68 = .ok (.ldc 31, 2) := by decide +kernel
theorem dX1_held_70 : decode cX1_held 70 = .ok (.invokestatic 32, 3) := by decide +kernel
theorem dX1_held_73 : decode cX1_held 73 = .ok (.ireturn, 1) := by decide +kernel
theorem dX1_held_74 : decode cX1_held 74 = .ok (.iload_n 1, 1) := by decide +kernel
theorem dX1_held_75 : decode cX1_held 75 = .ok (.ifCond .ne 7, 3) := by decide +kernel
theorem dX1_held_78 : decode cX1_held 78 = .ok (.iconst 0, 1) := by decide +kernel
theorem dX1_held_79 : decode cX1_held 79 = .ok (.goto 4, 3) := by decide +kernel
theorem dX1_held_82 : decode cX1_held 82 = .ok (.iconst 1, 1) := by decide +kernel
theorem dX1_held_83 : decode cX1_held 83 = .ok (.ireturn, 1) := by decide +kernel
theorem dX1_held_84 : decode cX1_held 84 = .ok (.iload_n 1, 1) := by decide +kernel
theorem dX1_held_85 : decode cX1_held 85 = .ok (.sipush 255, 3) := by decide +kernel
theorem dX1_held_88 : decode cX1_held 88 = .ok (.iand, 1) := by decide +kernel
theorem dX1_held_89 : decode cX1_held 89 = .ok (.sipush 128, 3) := by decide +kernel
theorem dX1_held_92 : decode cX1_held 92 = .ok (.if_icmp .ge 11, 3) := by decide +kernel
theorem dX1_held_95 : decode cX1_held 95 = .ok (.iload_n 1, 1) := by decide +kernel
theorem dX1_held_96 : decode cX1_held 96 = .ok (.sipush 255, 3) := by decide +kernel
theorem dX1_held_99 : decode cX1_held 99 = .ok (.iand, 1) := by decide +kernel
theorem dX1_held_100 : decode cX1_held 100 = .ok (.goto 12, 3) := by decide +kernel
theorem dX1_held_103 : decode cX1_held 103 = .ok (.iload_n 1, 1) := by decide +kernel
theorem dX1_held_104 : decode cX1_held 104 = .ok (.sipush 255, 3) := by decide +kernel
theorem dX1_held_107 : decode cX1_held 107 = .ok (.iand, 1) := by decide +kernel
theorem dX1_held_108 : decode cX1_held 108 = .ok (.sipush 256, 3) := by decide +kernel
theorem dX1_held_111 : decode cX1_held 111 = .ok (.isub, 1) := by decide +kernel
theorem dX1_held_112 : decode cX1_held 112 = .ok (.ireturn, 1) := by decide +kernel
theorem dX1_held_113 : decode cX1_held 113 = .ok (.iload_n 1, 1) := by decide +kernel
theorem dX1_held_114 : decode cX1_held 114 = .ok (.ireturn, 1) := by decide +kernel
theorem dX1_altered_0 : decode cX1_altered 0 = .ok (.iload_n 2, 1) := by decide +kernel
theorem dX1_altered_1 : decode cX1_altered 1 = .ok (.bipush 31, 2) := by decide +kernel
theorem dX1_altered_3 : decode cX1_altered 3 = .ok (.iand, 1) := by decide +kernel
theorem dX1_altered_4 : decode cX1_altered 4 = .ok (.istore_n 3, 1) := by decide +kernel
theorem dX1_altered_5 : decode cX1_altered 5 = .ok (.iload_n 1, 1) := by decide +kernel
theorem dX1_altered_6 : decode cX1_altered 6 = .ok (.tableswitch 78 0 7 #[46, 50, 54, 58, 62, 66, 70, 74], 46) := by decide +kernel
theorem dX1_altered_52 : decode cX1_altered 52 = .ok (.iload_n 0, 1) := by decide +kernel
theorem dX1_altered_53 : decode cX1_altered 53 = .ok (.iload_n 2, 1) := by decide +kernel
theorem dX1_altered_54 : decode cX1_altered 54 = .ok (.iadd, 1) := by decide +kernel
theorem dX1_altered_55 : decode cX1_altered 55 = .ok (.ireturn, 1) := by decide +kernel
theorem dX1_altered_56 : decode cX1_altered 56 = .ok (.iload_n 0, 1) := by decide +kernel
theorem dX1_altered_57 : decode cX1_altered 57 = .ok (.iload_n 2, 1) := by decide +kernel
theorem dX1_altered_58 : decode cX1_altered 58 = .ok (.isub, 1) := by decide +kernel
theorem dX1_altered_59 : decode cX1_altered 59 = .ok (.ireturn, 1) := by decide +kernel
theorem dX1_altered_60 : decode cX1_altered 60 = .ok (.iload_n 0, 1) := by decide +kernel
theorem dX1_altered_61 : decode cX1_altered 61 = .ok (.iload_n 2, 1) := by decide +kernel
theorem dX1_altered_62 : decode cX1_altered 62 = .ok (.imul, 1) := by decide +kernel
theorem dX1_altered_63 : decode cX1_altered 63 = .ok (.ireturn, 1) := by decide +kernel
theorem dX1_altered_64 : decode cX1_altered 64 = .ok (.iload_n 0, 1) := by decide +kernel
theorem dX1_altered_65 : decode cX1_altered 65 = .ok (.iload_n 2, 1) := by decide +kernel
theorem dX1_altered_66 : decode cX1_altered 66 = .ok (.iand, 1) := by decide +kernel
theorem dX1_altered_67 : decode cX1_altered 67 = .ok (.ireturn, 1) := by decide +kernel
theorem dX1_altered_68 : decode cX1_altered 68 = .ok (.iload_n 0, 1) := by decide +kernel
theorem dX1_altered_69 : decode cX1_altered 69 = .ok (.iload_n 2, 1) := by decide +kernel
theorem dX1_altered_70 : decode cX1_altered 70 = .ok (.ior, 1) := by decide +kernel
theorem dX1_altered_71 : decode cX1_altered 71 = .ok (.ireturn, 1) := by decide +kernel
theorem dX1_altered_72 : decode cX1_altered 72 = .ok (.iload_n 0, 1) := by decide +kernel
theorem dX1_altered_73 : decode cX1_altered 73 = .ok (.iload_n 2, 1) := by decide +kernel
theorem dX1_altered_74 : decode cX1_altered 74 = .ok (.ixor, 1) := by decide +kernel
theorem dX1_altered_75 : decode cX1_altered 75 = .ok (.ireturn, 1) := by decide +kernel
theorem dX1_altered_76 : decode cX1_altered 76 = .ok (.iload_n 0, 1) := by decide +kernel
theorem dX1_altered_77 : decode cX1_altered 77 = .ok (.iload_n 3, 1) := by decide +kernel
theorem dX1_altered_78 : decode cX1_altered 78 = .ok (.ishl, 1) := by decide +kernel
theorem dX1_altered_79 : decode cX1_altered 79 = .ok (.ireturn, 1) := by decide +kernel
theorem dX1_altered_80 : decode cX1_altered 80 = .ok (.iload_n 0, 1) := by decide +kernel
theorem dX1_altered_81 : decode cX1_altered 81 = .ok (.iload_n 3, 1) := by decide +kernel
theorem dX1_altered_82 : decode cX1_altered 82 = .ok (.ishr, 1) := by decide +kernel
theorem dX1_altered_83 : decode cX1_altered 83 = .ok (.ireturn, 1) := by decide +kernel
theorem dX1_altered_84 : decode cX1_altered 84 = .ok (.iload_n 0, 1) := by decide +kernel
theorem dX1_altered_85 : decode cX1_altered 85 = .ok (.iload_n 3, 1) := by decide +kernel
theorem dX1_altered_86 : decode cX1_altered 86 = .ok (.iushr, 1) := by decide +kernel
theorem dX1_altered_87 : decode cX1_altered 87 = .ok (.ireturn, 1) := by decide +kernel
theorem dX1_isHow_0 : decode cX1_isHow 0 = .ok (.iload_n 0, 1) := by decide +kernel
theorem dX1_isHow_1 : decode cX1_isHow 1 = .ok (.ifCond .lt 13, 3) := by decide +kernel
theorem dX1_isHow_4 : decode cX1_isHow 4 = .ok (.iload_n 0, 1) := by decide +kernel
theorem dX1_isHow_5 : decode cX1_isHow 5 = .ok (.bipush 8, 2) := by decide +kernel
theorem dX1_isHow_7 : decode cX1_isHow 7 = .ok (.if_icmp .gt 7, 3) := by decide +kernel
theorem dX1_isHow_10 : decode cX1_isHow 10 = .ok (.iconst 1, 1) := by decide +kernel
theorem dX1_isHow_11 : decode cX1_isHow 11 = .ok (.goto 4, 3) := by decide +kernel
theorem dX1_isHow_14 : decode cX1_isHow 14 = .ok (.iconst 0, 1) := by decide +kernel
theorem dX1_isHow_15 : decode cX1_isHow 15 = .ok (.ireturn, 1) := by decide +kernel
set_option maxRecDepth 20000 in
theorem ggX1_mayAlter_X1_isSort : GoodIn wsX1_mayAlter wsX1_isSort := goodIn_r _ [6] (by decide +kernel) (by decide +kernel)
set_option maxRecDepth 20000 in
theorem gX1_mayAlter_X1_isSort : GoodIn wsX1_mayAlter (va_wsS RX1 36 yX1_isSort wsX1_isSort) := goodIn_app (goodIn_of _ (by decide +kernel)) ggX1_mayAlter_X1_isSort
set_option maxRecDepth 20000 in
theorem ggX1_mayAlter_X1_isHow : GoodIn wsX1_mayAlter wsX1_isHow := goodIn_r _ [9] (by decide +kernel) (by decide +kernel)
set_option maxRecDepth 20000 in
theorem gX1_mayAlter_X1_isHow : GoodIn wsX1_mayAlter (va_wsS RX1 40 yX1_isHow wsX1_isHow) := goodIn_app (goodIn_of _ (by decide +kernel)) ggX1_mayAlter_X1_isHow
theorem dX1_mayAlter_0 : decode cX1_mayAlter 0 = .ok (.iload_n 0, 1) := by decide +kernel
theorem dX1_mayAlter_1 : decode cX1_mayAlter 1 = .ok (.invokestatic 36, 3) := by decide +kernel
theorem dX1_mayAlter_4 : decode cX1_mayAlter 4 = .ok (.ifCond .eq 10, 3) := by decide +kernel
theorem dX1_mayAlter_7 : decode cX1_mayAlter 7 = .ok (.iload_n 1, 1) := by decide +kernel
theorem dX1_mayAlter_8 : decode cX1_mayAlter 8 = .ok (.invokestatic 40, 3) := by decide +kernel
theorem dX1_mayAlter_11 : decode cX1_mayAlter 11 = .ok (.ifCond .ne 5, 3) := by decide +kernel
theorem dX1_mayAlter_14 : decode cX1_mayAlter 14 = .ok (.iconst 0, 1) := by decide +kernel
theorem dX1_mayAlter_15 : decode cX1_mayAlter 15 = .ok (.ireturn, 1) := by decide +kernel
theorem dX1_mayAlter_16 : decode cX1_mayAlter 16 = .ok (.iload_n 0, 1) := by decide +kernel
theorem dX1_mayAlter_17 : decode cX1_mayAlter 17 = .ok (.iconst 2, 1) := by decide +kernel
theorem dX1_mayAlter_18 : decode cX1_mayAlter 18 = .ok (.if_icmp .ne 26, 3) := by decide +kernel
theorem dX1_mayAlter_21 : decode cX1_mayAlter 21 = .ok (.iload_n 1, 1) := by decide +kernel
theorem dX1_mayAlter_22 : decode cX1_mayAlter 22 = .ok (.iconst 2, 1) := by decide +kernel
theorem dX1_mayAlter_23 : decode cX1_mayAlter 23 = .ok (.if_icmp .ge 19, 3) := by decide +kernel
theorem dX1_mayAlter_26 : decode cX1_mayAlter 26 = .ok (.iload_n 2, 1) := by decide +kernel
theorem dX1_mayAlter_27 : decode cX1_mayAlter 27 = .ok (.ldc 30, 2) := by decide +kernel
theorem dX1_mayAlter_29 : decode cX1_mayAlter 29 = .ok (.if_icmp .lt 13, 3) := by decide +kernel
theorem dX1_mayAlter_32 : decode cX1_mayAlter 32 = .ok (.iload_n 2, 1) := by decide +kernel
theorem dX1_mayAlter_33 : decode cX1_mayAlter 33 = .ok (.ldc 31, 2) := by decide +kernel
theorem dX1_mayAlter_35 : decode cX1_mayAlter 35 = .ok (.if_icmp .gt 7, 3) := by decide +kernel
theorem dX1_mayAlter_38 : decode cX1_mayAlter 38 = .ok (.iconst 1, 1) := by decide +kernel
theorem dX1_mayAlter_39 : decode cX1_mayAlter 39 = .ok (.goto 4, 3) := by decide +kernel
theorem dX1_mayAlter_42 : decode cX1_mayAlter 42 = .ok (.iconst 0, 1) := by decide +kernel
theorem dX1_mayAlter_43 : decode cX1_mayAlter 43 = .ok (.ireturn, 1) := by decide +kernel
theorem dX1_mayAlter_44 : decode cX1_mayAlter 44 = .ok (.iload_n 0, 1) := by decide +kernel
theorem dX1_mayAlter_45 : decode cX1_mayAlter 45 = .ok (.iconst 3, 1) := by decide +kernel
theorem dX1_mayAlter_46 : decode cX1_mayAlter 46 = .ok (.if_icmp .ne 13, 3) := by decide +kernel
theorem dX1_mayAlter_49 : decode cX1_mayAlter 49 = .ok (.iload_n 1, 1) := by decide +kernel
theorem dX1_mayAlter_50 : decode cX1_mayAlter 50 = .ok (.iconst 3, 1) := by decide +kernel
theorem dX1_mayAlter_51 : decode cX1_mayAlter 51 = .ok (.if_icmp .lt 12, 3) := by decide +kernel
theorem dX1_mayAlter_54 : decode cX1_mayAlter 54 = .ok (.iload_n 1, 1) := by decide +kernel
theorem dX1_mayAlter_55 : decode cX1_mayAlter 55 = .ok (.iconst 5, 1) := by decide +kernel
theorem dX1_mayAlter_56 : decode cX1_mayAlter 56 = .ok (.if_icmp .gt 7, 3) := by decide +kernel
theorem dX1_mayAlter_59 : decode cX1_mayAlter 59 = .ok (.iconst 1, 1) := by decide +kernel
theorem dX1_mayAlter_60 : decode cX1_mayAlter 60 = .ok (.goto 4, 3) := by decide +kernel
theorem dX1_mayAlter_63 : decode cX1_mayAlter 63 = .ok (.iconst 0, 1) := by decide +kernel
theorem dX1_mayAlter_64 : decode cX1_mayAlter 64 = .ok (.ireturn, 1) := by decide +kernel
theorem dX1_at_0 : decode cX1_at 0 = .ok (.bipush 64, 2) := by decide +kernel
theorem dX1_at_2 : decode cX1_at 2 = .ok (.iconst 2, 1) := by decide +kernel
theorem dX1_at_3 : decode cX1_at 3 = .ok (.iload_n 0, 1) := by decide +kernel
theorem dX1_at_4 : decode cX1_at 4 = .ok (.imul, 1) := by decide +kernel
theorem dX1_at_5 : decode cX1_at 5 = .ok (.imul, 1) := by decide +kernel
theorem dX1_at_6 : decode cX1_at 6 = .ok (.iload_n 1, 1) := by decide +kernel
theorem dX1_at_7 : decode cX1_at 7 = .ok (.iadd, 1) := by decide +kernel
theorem dX1_at_8 : decode cX1_at 8 = .ok (.ireturn, 1) := by decide +kernel
theorem dX1_lacks_0 : decode cX1_lacks 0 = .ok (.aload_n 0, 1) := by decide +kernel
theorem dX1_lacks_1 : decode cX1_lacks 1 = .ok (.getfield 7, 3) := by decide +kernel
theorem dX1_lacks_4 : decode cX1_lacks 4 = .ok (.iconst 2, 1) := by decide +kernel
theorem dX1_lacks_5 : decode cX1_lacks 5 = .ok (.iload_n 1, 1) := by decide +kernel
theorem dX1_lacks_6 : decode cX1_lacks 6 = .ok (.imul, 1) := by decide +kernel
theorem dX1_lacks_7 : decode cX1_lacks 7 = .ok (.iaload, 1) := by decide +kernel
theorem dX1_lacks_8 : decode cX1_lacks 8 = .ok (.istore_n 3, 1) := by decide +kernel
theorem dX1_lacks_9 : decode cX1_lacks 9 = .ok (.iload_n 3, 1) := by decide +kernel
theorem dX1_lacks_10 : decode cX1_lacks 10 = .ok (.iconst (-1), 1) := by decide +kernel
theorem dX1_lacks_11 : decode cX1_lacks 11 = .ok (.if_icmp .ne 7, 3) := by decide +kernel
theorem dX1_lacks_14 : decode cX1_lacks 14 = .ok (.iconst 1, 1) := by decide +kernel
theorem dX1_lacks_15 : decode cX1_lacks 15 = .ok (.goto 17, 3) := by decide +kernel
theorem dX1_lacks_18 : decode cX1_lacks 18 = .ok (.iload_n 2, 1) := by decide +kernel
theorem dX1_lacks_19 : decode cX1_lacks 19 = .ok (.ifCond .lt 8, 3) := by decide +kernel
theorem dX1_lacks_22 : decode cX1_lacks 22 = .ok (.iload_n 2, 1) := by decide +kernel
theorem dX1_lacks_23 : decode cX1_lacks 23 = .ok (.iload_n 3, 1) := by decide +kernel
theorem dX1_lacks_24 : decode cX1_lacks 24 = .ok (.if_icmp .lt 7, 3) := by decide +kernel
theorem dX1_lacks_27 : decode cX1_lacks 27 = .ok (.iconst 2, 1) := by decide +kernel
theorem dX1_lacks_28 : decode cX1_lacks 28 = .ok (.goto 4, 3) := by decide +kernel
theorem dX1_lacks_31 : decode cX1_lacks 31 = .ok (.iconst 0, 1) := by decide +kernel
theorem dX1_lacks_32 : decode cX1_lacks 32 = .ok (.ireturn, 1) := by decide +kernel
set_option maxRecDepth 20000 in
theorem ggX1_put_X1_at : GoodIn wsX1_put wsX1_at := goodIn_r _ [5] (by decide +kernel) (by decide +kernel)
set_option maxRecDepth 20000 in
theorem gX1_put_X1_at : GoodIn wsX1_put (va_wsS RX1 43 yX1_at wsX1_at) := goodIn_app (goodIn_of _ (by decide +kernel)) ggX1_put_X1_at
set_option maxRecDepth 20000 in
theorem ggX1_put_X1_held : GoodIn wsX1_put wsX1_held := goodIn_r _ [8, 9, 10, 11, 12, 13, 14, 15, 4, 16] (by decide +kernel) (by decide +kernel)
set_option maxRecDepth 20000 in
theorem gX1_put_X1_held : GoodIn wsX1_put (va_wsS RX1 47 yX1_held wsX1_held) := goodIn_app (goodIn_of _ (by decide +kernel)) ggX1_put_X1_held
theorem dX1_put_0 : decode cX1_put 0 = .ok (.aload_n 0, 1) := by decide +kernel
theorem dX1_put_1 : decode cX1_put 1 = .ok (.getfield 13, 3) := by decide +kernel
theorem dX1_put_4 : decode cX1_put 4 = .ok (.iload_n 1, 1) := by decide +kernel
theorem dX1_put_5 : decode cX1_put 5 = .ok (.iload_n 2, 1) := by decide +kernel
theorem dX1_put_6 : decode cX1_put 6 = .ok (.invokestatic 43, 3) := by decide +kernel
theorem dX1_put_9 : decode cX1_put 9 = .ok (.iload_n 1, 1) := by decide +kernel
theorem dX1_put_10 : decode cX1_put 10 = .ok (.iload_n 3, 1) := by decide +kernel
theorem dX1_put_11 : decode cX1_put 11 = .ok (.invokestatic 47, 3) := by decide +kernel
theorem dX1_put_14 : decode cX1_put 14 = .ok (.iastore, 1) := by decide +kernel
theorem dX1_put_15 : decode cX1_put 15 = .ok (.aload_n 0, 1) := by decide +kernel
theorem dX1_put_16 : decode cX1_put 16 = .ok (.getfield 13, 3) := by decide +kernel
theorem dX1_put_19 : decode cX1_put 19 = .ok (.iload_n 1, 1) := by decide +kernel
theorem dX1_put_20 : decode cX1_put 20 = .ok (.iload_n 2, 1) := by decide +kernel
theorem dX1_put_21 : decode cX1_put 21 = .ok (.invokestatic 43, 3) := by decide +kernel
theorem dX1_put_24 : decode cX1_put 24 = .ok (.iaload, 1) := by decide +kernel
theorem dX1_put_25 : decode cX1_put 25 = .ok (.ireturn, 1) := by decide +kernel
set_option maxRecDepth 20000 in
theorem ggX1_mount_X1_isSort : GoodIn wsX1_mount wsX1_isSort := goodIn_r _ [7] (by decide +kernel) (by decide +kernel)
set_option maxRecDepth 20000 in
theorem gX1_mount_X1_isSort : GoodIn wsX1_mount (va_wsS RX1 36 yX1_isSort wsX1_isSort) := goodIn_app (goodIn_of _ (by decide +kernel)) ggX1_mount_X1_isSort
set_option maxRecDepth 20000 in
theorem ggX1_mount_X1_at : GoodIn wsX1_mount wsX1_at := goodIn_r _ [10] (by decide +kernel) (by decide +kernel)
set_option maxRecDepth 20000 in
theorem gX1_mount_X1_at : GoodIn wsX1_mount (va_wsS RX1 43 yX1_at wsX1_at) := goodIn_app (goodIn_of _ (by decide +kernel)) ggX1_mount_X1_at
theorem dX1_mount_0 : decode cX1_mount 0 = .ok (.aload_n 0, 1) := by decide +kernel
theorem dX1_mount_1 : decode cX1_mount 1 = .ok (.iload_n 1, 1) := by decide +kernel
theorem dX1_mount_2 : decode cX1_mount 2 = .ok (.invokestatic 36, 3) := by decide +kernel
theorem dX1_mount_5 : decode cX1_mount 5 = .ok (.ifCond .eq 13, 3) := by decide +kernel
theorem dX1_mount_8 : decode cX1_mount 8 = .ok (.iload_n 2, 1) := by decide +kernel
theorem dX1_mount_9 : decode cX1_mount 9 = .ok (.ifCond .lt 9, 3) := by decide +kernel
theorem dX1_mount_12 : decode cX1_mount 12 = .ok (.iload_n 2, 1) := by decide +kernel
theorem dX1_mount_13 : decode cX1_mount 13 = .ok (.bipush 64, 2) := by decide +kernel
theorem dX1_mount_15 : decode cX1_mount 15 = .ok (.if_icmp .le 7, 3) := by decide +kernel
theorem dX1_mount_18 : decode cX1_mount 18 = .ok (.iconst 1, 1) := by decide +kernel
theorem dX1_mount_19 : decode cX1_mount 19 = .ok (.goto 4, 3) := by decide +kernel
theorem dX1_mount_22 : decode cX1_mount 22 = .ok (.iconst 0, 1) := by decide +kernel
theorem dX1_mount_23 : decode cX1_mount 23 = .ok (.putfield 23, 3) := by decide +kernel
theorem dX1_mount_26 : decode cX1_mount 26 = .ok (.aload_n 0, 1) := by decide +kernel
theorem dX1_mount_27 : decode cX1_mount 27 = .ok (.getfield 23, 3) := by decide +kernel
theorem dX1_mount_30 : decode cX1_mount 30 = .ok (.ifCond .eq 5, 3) := by decide +kernel
theorem dX1_mount_33 : decode cX1_mount 33 = .ok (.iconst 0, 1) := by decide +kernel
theorem dX1_mount_34 : decode cX1_mount 34 = .ok (.ireturn, 1) := by decide +kernel
theorem dX1_mount_35 : decode cX1_mount 35 = .ok (.aload_n 0, 1) := by decide +kernel
theorem dX1_mount_36 : decode cX1_mount 36 = .ok (.getfield 7, 3) := by decide +kernel
theorem dX1_mount_39 : decode cX1_mount 39 = .ok (.iconst 2, 1) := by decide +kernel
theorem dX1_mount_40 : decode cX1_mount 40 = .ok (.iload_n 1, 1) := by decide +kernel
theorem dX1_mount_41 : decode cX1_mount 41 = .ok (.imul, 1) := by decide +kernel
theorem dX1_mount_42 : decode cX1_mount 42 = .ok (.iaload, 1) := by decide +kernel
theorem dX1_mount_43 : decode cX1_mount 43 = .ok (.istore_n 3, 1) := by decide +kernel
theorem dX1_mount_44 : decode cX1_mount 44 = .ok (.aload_n 0, 1) := by decide +kernel
theorem dX1_mount_45 : decode cX1_mount 45 = .ok (.getfield 7, 3) := by decide +kernel
theorem dX1_mount_48 : decode cX1_mount 48 = .ok (.iconst 2, 1) := by decide +kernel
theorem dX1_mount_49 : decode cX1_mount 49 = .ok (.iload_n 1, 1) := by decide +kernel
theorem dX1_mount_50 : decode cX1_mount 50 = .ok (.imul, 1) := by decide +kernel
theorem dX1_mount_51 : decode cX1_mount 51 = .ok (.iload_n 2, 1) := by decide +kernel
theorem dX1_mount_52 : decode cX1_mount 52 = .ok (.iastore, 1) := by decide +kernel
theorem dX1_mount_53 : decode cX1_mount 53 = .ok (.iconst 0, 1) := by decide +kernel
theorem dX1_mount_54 : decode cX1_mount 54 = .ok (.istore 4, 2) := by decide +kernel
theorem dX1_mount_56 : decode cX1_mount 56 = .ok (.iload 4, 2) := by decide +kernel
theorem dX1_mount_58 : decode cX1_mount 58 = .ok (.iload_n 2, 1) := by decide +kernel
theorem dX1_mount_59 : decode cX1_mount 59 = .ok (.if_icmp .ge 21, 3) := by decide +kernel
theorem dX1_mount_62 : decode cX1_mount 62 = .ok (.aload_n 0, 1) := by decide +kernel
theorem dX1_mount_63 : decode cX1_mount 63 = .ok (.getfield 13, 3) := by decide +kernel
theorem dX1_mount_66 : decode cX1_mount 66 = .ok (.iload_n 1, 1) := by decide +kernel
theorem dX1_mount_67 : decode cX1_mount 67 = .ok (.iload 4, 2) := by decide +kernel
theorem dX1_mount_69 : decode cX1_mount 69 = .ok (.invokestatic 43, 3) := by decide +kernel
theorem dX1_mount_72 : decode cX1_mount 72 = .ok (.iconst 0, 1) := by decide +kernel
theorem dX1_mount_73 : decode cX1_mount 73 = .ok (.iastore, 1) := by decide +kernel
theorem dX1_mount_74 : decode cX1_mount 74 = .ok (.iinc 4 1, 3) := by decide +kernel
theorem dX1_mount_77 : decode cX1_mount 77 = .ok (.goto (-21), 3) := by decide +kernel
theorem dX1_mount_80 : decode cX1_mount 80 = .ok (.iload_n 3, 1) := by decide +kernel
theorem dX1_mount_81 : decode cX1_mount 81 = .ok (.ireturn, 1) := by decide +kernel
set_option maxRecDepth 20000 in
theorem ggX1_off_X1_isSort : GoodIn wsX1_off wsX1_isSort := goodIn_r _ [6] (by decide +kernel) (by decide +kernel)
set_option maxRecDepth 20000 in
theorem gX1_off_X1_isSort : GoodIn wsX1_off (va_wsS RX1 36 yX1_isSort wsX1_isSort) := goodIn_app (goodIn_of _ (by decide +kernel)) ggX1_off_X1_isSort
theorem dX1_off_0 : decode cX1_off 0 = .ok (.aload_n 0, 1) := by decide +kernel
theorem dX1_off_1 : decode cX1_off 1 = .ok (.iload_n 1, 1) := by decide +kernel
theorem dX1_off_2 : decode cX1_off 2 = .ok (.invokestatic 36, 3) := by decide +kernel
theorem dX1_off_5 : decode cX1_off 5 = .ok (.ifCond .ne 7, 3) := by decide +kernel
theorem dX1_off_8 : decode cX1_off 8 = .ok (.iconst 1, 1) := by decide +kernel
theorem dX1_off_9 : decode cX1_off 9 = .ok (.goto 20, 3) := by decide +kernel
theorem dX1_off_12 : decode cX1_off 12 = .ok (.aload_n 0, 1) := by decide +kernel
theorem dX1_off_13 : decode cX1_off 13 = .ok (.getfield 7, 3) := by decide +kernel
theorem dX1_off_16 : decode cX1_off 16 = .ok (.iconst 2, 1) := by decide +kernel
theorem dX1_off_17 : decode cX1_off 17 = .ok (.iload_n 1, 1) := by decide +kernel
theorem dX1_off_18 : decode cX1_off 18 = .ok (.imul, 1) := by decide +kernel
theorem dX1_off_19 : decode cX1_off 19 = .ok (.iaload, 1) := by decide +kernel
theorem dX1_off_20 : decode cX1_off 20 = .ok (.iconst (-1), 1) := by decide +kernel
theorem dX1_off_21 : decode cX1_off 21 = .ok (.if_icmp .ne 7, 3) := by decide +kernel
theorem dX1_off_24 : decode cX1_off 24 = .ok (.iconst 2, 1) := by decide +kernel
theorem dX1_off_25 : decode cX1_off 25 = .ok (.goto 4, 3) := by decide +kernel
theorem dX1_off_28 : decode cX1_off 28 = .ok (.iconst 0, 1) := by decide +kernel
theorem dX1_off_29 : decode cX1_off 29 = .ok (.putfield 23, 3) := by decide +kernel
theorem dX1_off_32 : decode cX1_off 32 = .ok (.aload_n 0, 1) := by decide +kernel
theorem dX1_off_33 : decode cX1_off 33 = .ok (.getfield 23, 3) := by decide +kernel
theorem dX1_off_36 : decode cX1_off 36 = .ok (.ifCond .eq 5, 3) := by decide +kernel
theorem dX1_off_39 : decode cX1_off 39 = .ok (.iconst 0, 1) := by decide +kernel
theorem dX1_off_40 : decode cX1_off 40 = .ok (.ireturn, 1) := by decide +kernel
theorem dX1_off_41 : decode cX1_off 41 = .ok (.aload_n 0, 1) := by decide +kernel
theorem dX1_off_42 : decode cX1_off 42 = .ok (.getfield 7, 3) := by decide +kernel
theorem dX1_off_45 : decode cX1_off 45 = .ok (.iconst 2, 1) := by decide +kernel
theorem dX1_off_46 : decode cX1_off 46 = .ok (.iload_n 1, 1) := by decide +kernel
theorem dX1_off_47 : decode cX1_off 47 = .ok (.imul, 1) := by decide +kernel
theorem dX1_off_48 : decode cX1_off 48 = .ok (.iaload, 1) := by decide +kernel
theorem dX1_off_49 : decode cX1_off 49 = .ok (.istore_n 2, 1) := by decide +kernel
theorem dX1_off_50 : decode cX1_off 50 = .ok (.aload_n 0, 1) := by decide +kernel
theorem dX1_off_51 : decode cX1_off 51 = .ok (.getfield 7, 3) := by decide +kernel
theorem dX1_off_54 : decode cX1_off 54 = .ok (.iconst 2, 1) := by decide +kernel
theorem dX1_off_55 : decode cX1_off 55 = .ok (.iload_n 1, 1) := by decide +kernel
theorem dX1_off_56 : decode cX1_off 56 = .ok (.imul, 1) := by decide +kernel
theorem dX1_off_57 : decode cX1_off 57 = .ok (.iconst (-1), 1) := by decide +kernel
theorem dX1_off_58 : decode cX1_off 58 = .ok (.iastore, 1) := by decide +kernel
theorem dX1_off_59 : decode cX1_off 59 = .ok (.iload_n 2, 1) := by decide +kernel
theorem dX1_off_60 : decode cX1_off 60 = .ok (.ireturn, 1) := by decide +kernel
set_option maxRecDepth 20000 in
theorem ggX1_swap_X1_isSort : GoodIn wsX1_swap wsX1_isSort := goodIn_r _ [7] (by decide +kernel) (by decide +kernel)
set_option maxRecDepth 20000 in
theorem gX1_swap_X1_isSort : GoodIn wsX1_swap (va_wsS RX1 36 yX1_isSort wsX1_isSort) := goodIn_app (goodIn_of _ (by decide +kernel)) ggX1_swap_X1_isSort
set_option maxRecDepth 20000 in
theorem ggX1_swap_X1_at : GoodIn wsX1_swap wsX1_at := goodIn_r _ [10] (by decide +kernel) (by decide +kernel)
set_option maxRecDepth 20000 in
theorem gX1_swap_X1_at : GoodIn wsX1_swap (va_wsS RX1 43 yX1_at wsX1_at) := goodIn_app (goodIn_of _ (by decide +kernel)) ggX1_swap_X1_at
theorem dX1_swap_0 : decode cX1_swap 0 = .ok (.aload_n 0, 1) := by decide +kernel
theorem dX1_swap_1 : decode cX1_swap 1 = .ok (.iload_n 1, 1) := by decide +kernel
theorem dX1_swap_2 : decode cX1_swap 2 = .ok (.invokestatic 36, 3) := by decide +kernel
theorem dX1_swap_5 : decode cX1_swap 5 = .ok (.ifCond .eq 7, 3) := by decide +kernel
theorem dX1_swap_8 : decode cX1_swap 8 = .ok (.iconst 0, 1) := by decide +kernel
theorem dX1_swap_9 : decode cX1_swap 9 = .ok (.goto 4, 3) := by decide +kernel
theorem dX1_swap_12 : decode cX1_swap 12 = .ok (.iconst 1, 1) := by decide +kernel
theorem dX1_swap_13 : decode cX1_swap 13 = .ok (.putfield 23, 3) := by decide +kernel
theorem dX1_swap_16 : decode cX1_swap 16 = .ok (.aload_n 0, 1) := by decide +kernel
theorem dX1_swap_17 : decode cX1_swap 17 = .ok (.getfield 23, 3) := by decide +kernel
theorem dX1_swap_20 : decode cX1_swap 20 = .ok (.ifCond .eq 5, 3) := by decide +kernel
theorem dX1_swap_23 : decode cX1_swap 23 = .ok (.iconst 0, 1) := by decide +kernel
theorem dX1_swap_24 : decode cX1_swap 24 = .ok (.ireturn, 1) := by decide +kernel
theorem dX1_swap_25 : decode cX1_swap 25 = .ok (.iconst 0, 1) := by decide +kernel
theorem dX1_swap_26 : decode cX1_swap 26 = .ok (.istore_n 2, 1) := by decide +kernel
theorem dX1_swap_27 : decode cX1_swap 27 = .ok (.iload_n 2, 1) := by decide +kernel
theorem dX1_swap_28 : decode cX1_swap 28 = .ok (.bipush 64, 2) := by decide +kernel
theorem dX1_swap_30 : decode cX1_swap 30 = .ok (.if_icmp .ge 57, 3) := by decide +kernel
theorem dX1_swap_33 : decode cX1_swap 33 = .ok (.aload_n 0, 1) := by decide +kernel
theorem dX1_swap_34 : decode cX1_swap 34 = .ok (.getfield 13, 3) := by decide +kernel
theorem dX1_swap_37 : decode cX1_swap 37 = .ok (.iload_n 1, 1) := by decide +kernel
theorem dX1_swap_38 : decode cX1_swap 38 = .ok (.iload_n 2, 1) := by decide +kernel
theorem dX1_swap_39 : decode cX1_swap 39 = .ok (.invokestatic 43, 3) := by decide +kernel
theorem dX1_swap_42 : decode cX1_swap 42 = .ok (.iaload, 1) := by decide +kernel
theorem dX1_swap_43 : decode cX1_swap 43 = .ok (.istore_n 3, 1) := by decide +kernel
theorem dX1_swap_44 : decode cX1_swap 44 = .ok (.aload_n 0, 1) := by decide +kernel
theorem dX1_swap_45 : decode cX1_swap 45 = .ok (.getfield 13, 3) := by decide +kernel
theorem dX1_swap_48 : decode cX1_swap 48 = .ok (.iload_n 1, 1) := by decide +kernel
theorem dX1_swap_49 : decode cX1_swap 49 = .ok (.iload_n 2, 1) := by decide +kernel
theorem dX1_swap_50 : decode cX1_swap 50 = .ok (.invokestatic 43, 3) := by decide +kernel
theorem dX1_swap_53 : decode cX1_swap 53 = .ok (.aload_n 0, 1) := by decide +kernel
theorem dX1_swap_54 : decode cX1_swap 54 = .ok (.getfield 13, 3) := by decide +kernel
theorem dX1_swap_57 : decode cX1_swap 57 = .ok (.iload_n 1, 1) := by decide +kernel
theorem dX1_swap_58 : decode cX1_swap 58 = .ok (.bipush 64, 2) := by decide +kernel
theorem dX1_swap_60 : decode cX1_swap 60 = .ok (.iload_n 2, 1) := by decide +kernel
theorem dX1_swap_61 : decode cX1_swap 61 = .ok (.iadd, 1) := by decide +kernel
theorem dX1_swap_62 : decode cX1_swap 62 = .ok (.invokestatic 43, 3) := by decide +kernel
theorem dX1_swap_65 : decode cX1_swap 65 = .ok (.iaload, 1) := by decide +kernel
theorem dX1_swap_66 : decode cX1_swap 66 = .ok (.iastore, 1) := by decide +kernel
theorem dX1_swap_67 : decode cX1_swap 67 = .ok (.aload_n 0, 1) := by decide +kernel
theorem dX1_swap_68 : decode cX1_swap 68 = .ok (.getfield 13, 3) := by decide +kernel
theorem dX1_swap_71 : decode cX1_swap 71 = .ok (.iload_n 1, 1) := by decide +kernel
theorem dX1_swap_72 : decode cX1_swap 72 = .ok (.bipush 64, 2) := by decide +kernel
theorem dX1_swap_74 : decode cX1_swap 74 = .ok (.iload_n 2, 1) := by decide +kernel
theorem dX1_swap_75 : decode cX1_swap 75 = .ok (.iadd, 1) := by decide +kernel
theorem dX1_swap_76 : decode cX1_swap 76 = .ok (.invokestatic 43, 3) := by decide +kernel
theorem dX1_swap_79 : decode cX1_swap 79 = .ok (.iload_n 3, 1) := by decide +kernel
theorem dX1_swap_80 : decode cX1_swap 80 = .ok (.iastore, 1) := by decide +kernel
theorem dX1_swap_81 : decode cX1_swap 81 = .ok (.iinc 2 1, 3) := by decide +kernel
theorem dX1_swap_84 : decode cX1_swap 84 = .ok (.goto (-57), 3) := by decide +kernel
theorem dX1_swap_87 : decode cX1_swap 87 = .ok (.aload_n 0, 1) := by decide +kernel
theorem dX1_swap_88 : decode cX1_swap 88 = .ok (.getfield 7, 3) := by decide +kernel
theorem dX1_swap_91 : decode cX1_swap 91 = .ok (.iconst 2, 1) := by decide +kernel
theorem dX1_swap_92 : decode cX1_swap 92 = .ok (.iload_n 1, 1) := by decide +kernel
theorem dX1_swap_93 : decode cX1_swap 93 = .ok (.imul, 1) := by decide +kernel
theorem dX1_swap_94 : decode cX1_swap 94 = .ok (.iaload, 1) := by decide +kernel
theorem dX1_swap_95 : decode cX1_swap 95 = .ok (.istore_n 2, 1) := by decide +kernel
theorem dX1_swap_96 : decode cX1_swap 96 = .ok (.aload_n 0, 1) := by decide +kernel
theorem dX1_swap_97 : decode cX1_swap 97 = .ok (.getfield 7, 3) := by decide +kernel
theorem dX1_swap_100 : decode cX1_swap 100 = .ok (.iconst 2, 1) := by decide +kernel
theorem dX1_swap_101 : decode cX1_swap 101 = .ok (.iload_n 1, 1) := by decide +kernel
theorem dX1_swap_102 : decode cX1_swap 102 = .ok (.imul, 1) := by decide +kernel
theorem dX1_swap_103 : decode cX1_swap 103 = .ok (.aload_n 0, 1) := by decide +kernel
theorem dX1_swap_104 : decode cX1_swap 104 = .ok (.getfield 7, 3) := by decide +kernel
theorem dX1_swap_107 : decode cX1_swap 107 = .ok (.iconst 2, 1) := by decide +kernel
theorem dX1_swap_108 : decode cX1_swap 108 = .ok (.iload_n 1, 1) := by decide +kernel
theorem dX1_swap_109 : decode cX1_swap 109 = .ok (.imul, 1) := by decide +kernel
theorem dX1_swap_110 : decode cX1_swap 110 = .ok (.iconst 1, 1) := by decide +kernel
theorem dX1_swap_111 : decode cX1_swap 111 = .ok (.iadd, 1) := by decide +kernel
theorem dX1_swap_112 : decode cX1_swap 112 = .ok (.iaload, 1) := by decide +kernel
theorem dX1_swap_113 : decode cX1_swap 113 = .ok (.iastore, 1) := by decide +kernel
theorem dX1_swap_114 : decode cX1_swap 114 = .ok (.aload_n 0, 1) := by decide +kernel
theorem dX1_swap_115 : decode cX1_swap 115 = .ok (.getfield 7, 3) := by decide +kernel
theorem dX1_swap_118 : decode cX1_swap 118 = .ok (.iconst 2, 1) := by decide +kernel
theorem dX1_swap_119 : decode cX1_swap 119 = .ok (.iload_n 1, 1) := by decide +kernel
theorem dX1_swap_120 : decode cX1_swap 120 = .ok (.imul, 1) := by decide +kernel
theorem dX1_swap_121 : decode cX1_swap 121 = .ok (.iconst 1, 1) := by decide +kernel
theorem dX1_swap_122 : decode cX1_swap 122 = .ok (.iadd, 1) := by decide +kernel
theorem dX1_swap_123 : decode cX1_swap 123 = .ok (.iload_n 2, 1) := by decide +kernel
theorem dX1_swap_124 : decode cX1_swap 124 = .ok (.iastore, 1) := by decide +kernel
theorem dX1_swap_125 : decode cX1_swap 125 = .ok (.aload_n 0, 1) := by decide +kernel
theorem dX1_swap_126 : decode cX1_swap 126 = .ok (.getfield 7, 3) := by decide +kernel
theorem dX1_swap_129 : decode cX1_swap 129 = .ok (.iconst 2, 1) := by decide +kernel
theorem dX1_swap_130 : decode cX1_swap 130 = .ok (.iload_n 1, 1) := by decide +kernel
theorem dX1_swap_131 : decode cX1_swap 131 = .ok (.imul, 1) := by decide +kernel
theorem dX1_swap_132 : decode cX1_swap 132 = .ok (.iaload, 1) := by decide +kernel
theorem dX1_swap_133 : decode cX1_swap 133 = .ok (.ireturn, 1) := by decide +kernel
