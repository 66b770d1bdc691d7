set_option maxRecDepth 20000 in
theorem ggX1_copy_X1_isSort : GoodIn wsX1_copy wsX1_isSort := goodIn_r _ [7] (by decide +kernel) (by decide +kernel)
set_option maxRecDepth 20000 in
theorem gX1_copy_X1_isSort : GoodIn wsX1_copy (va_wsS RX1 36 yX1_isSort wsX1_isSort) := goodIn_app (goodIn_of _ (by decide +kernel)) ggX1_copy_X1_isSort
set_option maxRecDepth 20000 in
theorem ggX1_copy_X1_at : GoodIn wsX1_copy wsX1_at := goodIn_r _ [10] (by decide +kernel) (by decide +kernel)
set_option maxRecDepth 20000 in
theorem gX1_copy_X1_at : GoodIn wsX1_copy (va_wsS RX1 43 yX1_at wsX1_at) := goodIn_app (goodIn_of _ (by decide +kernel)) ggX1_copy_X1_at
theorem dX1_copy_0 : decode cX1_copy 0 = .ok (.aload_n 0, 1) := by decide +kernel
theorem dX1_copy_1 : decode cX1_copy 1 = .ok (.iload_n 1, 1) := by decide +kernel
theorem dX1_copy_2 : decode cX1_copy 2 = .ok (.invokestatic 36, 3) := by decide +kernel
theorem dX1_copy_5 : decode cX1_copy 5 = .ok (.ifCond .ne 7, 3) := by decide +kernel
theorem dX1_copy_8 : decode cX1_copy 8 = .ok (.iconst 1, 1) := by decide +kernel
theorem dX1_copy_9 : decode cX1_copy 9 = .ok (.goto 20, 3) := by decide +kernel
theorem dX1_copy_12 : decode cX1_copy 12 = .ok (.aload_n 0, 1) := by decide +kernel
theorem dX1_copy_13 : decode cX1_copy 13 = .ok (.getfield 7, 3) := by decide +kernel
theorem dX1_copy_16 : decode cX1_copy 16 = .ok (.iconst 2, 1) := by decide +kernel
theorem dX1_copy_17 : decode cX1_copy 17 = .ok (.iload_n 1, 1) := by decide +kernel
theorem dX1_copy_18 : decode cX1_copy 18 = .ok (.imul, 1) := by decide +kernel
theorem dX1_copy_19 : decode cX1_copy 19 = .ok (.iaload, 1) := by decide +kernel
theorem dX1_copy_20 : decode cX1_copy 20 = .ok (.iconst (-1), 1) := by decide +kernel
theorem dX1_copy_21 : decode cX1_copy 21 = .ok (.if_icmp .ne 7, 3) := by decide +kernel
theorem dX1_copy_24 : decode cX1_copy 24 = .ok (.iconst 2, 1) := by decide +kernel
theorem dX1_copy_25 : decode cX1_copy 25 = .ok (.goto 4, 3) := by decide +kernel
theorem dX1_copy_28 : decode cX1_copy 28 = .ok (.iconst 0, 1) := by decide +kernel
theorem dX1_copy_29 : decode cX1_copy 29 = .ok (.putfield 23, 3) := by decide +kernel
theorem dX1_copy_32 : decode cX1_copy 32 = .ok (.aload_n 0, 1) := by decide +kernel
theorem dX1_copy_33 : decode cX1_copy 33 = .ok (.getfield 23, 3) := by decide +kernel
theorem dX1_copy_36 : decode cX1_copy 36 = .ok (.ifCond .eq 5, 3) := by decide +kernel
theorem dX1_copy_39 : decode cX1_copy 39 = .ok (.iconst 0, 1) := by decide +kernel
theorem dX1_copy_40 : decode cX1_copy 40 = .ok (.ireturn, 1) := by decide +kernel
theorem dX1_copy_41 : decode cX1_copy 41 = .ok (.iconst 0, 1) := by decide +kernel
theorem dX1_copy_42 : decode cX1_copy 42 = .ok (.istore_n 2, 1) := by decide +kernel
theorem dX1_copy_43 : decode cX1_copy 43 = .ok (.iload_n 2, 1) := by decide +kernel
theorem dX1_copy_44 : decode cX1_copy 44 = .ok (.aload_n 0, 1) := by decide +kernel
theorem dX1_copy_45 : decode cX1_copy 45 = .ok (.getfield 7, 3) := by decide +kernel
theorem dX1_copy_48 : decode cX1_copy 48 = .ok (.iconst 2, 1) := by decide +kernel
theorem dX1_copy_49 : decode cX1_copy 49 = .ok (.iload_n 1, 1) := by decide +kernel
theorem dX1_copy_50 : decode cX1_copy 50 = .ok (.imul, 1) := by decide +kernel
theorem dX1_copy_51 : decode cX1_copy 51 = .ok (.iaload, 1) := by decide +kernel
theorem dX1_copy_52 : decode cX1_copy 52 = .ok (.if_icmp .ge 32, 3) := by decide +kernel
theorem dX1_copy_55 : decode cX1_copy 55 = .ok (.aload_n 0, 1) := by decide +kernel
theorem dX1_copy_56 : decode cX1_copy 56 = .ok (.getfield 13, 3) := by decide +kernel
theorem dX1_copy_59 : decode cX1_copy 59 = .ok (.iload_n 1, 1) := by decide +kernel
theorem dX1_copy_60 : decode cX1_copy 60 = .ok (.bipush 64, 2) := by decide +kernel
theorem dX1_copy_62 : decode cX1_copy 62 = .ok (.iload_n 2, 1) := by decide +kernel
theorem dX1_copy_63 : decode cX1_copy 63 = .ok (.iadd, 1) := by decide +kernel
theorem dX1_copy_64 : decode cX1_copy 64 = .ok (.invokestatic 43, 3) := by decide +kernel
theorem dX1_copy_67 : decode cX1_copy 67 = .ok (.aload_n 0, 1) := by decide +kernel
theorem dX1_copy_68 : decode cX1_copy 68 = .ok (.getfield 13, 3) := by decide +kernel
theorem dX1_copy_71 : decode cX1_copy 71 = .ok (.iload_n 1, 1) := by decide +kernel
theorem dX1_copy_72 : decode cX1_copy 72 = .ok (.iload_n 2, 1) := by decide +kernel
theorem dX1_copy_73 : decode cX1_copy 73 = .ok (.invokestatic 43, 3) := by decide +kernel
theorem dX1_copy_76 : decode cX1_copy 76 = .ok (.iaload, 1) := by decide +kernel
theorem dX1_copy_77 : decode cX1_copy 77 = .ok (.iastore, 1) := by decide +kernel
theorem dX1_copy_78 : decode cX1_copy 78 = .ok (.iinc 2 1, 3) := by decide +kernel
theorem dX1_copy_81 : decode cX1_copy 81 = .ok (.goto (-38), 3) := by decide +kernel
theorem dX1_copy_84 : decode cX1_copy 84 = .ok (.aload_n 0, 1) := by decide +kernel
theorem dX1_copy_85 : decode cX1_copy 85 = .ok (.getfield 7, 3) := by decide +kernel
theorem dX1_copy_88 : decode cX1_copy 88 = .ok (.iconst 2, 1) := by decide +kernel
theorem dX1_copy_89 : decode cX1_copy 89 = .ok (.iload_n 1, 1) := by decide +kernel
theorem dX1_copy_90 : decode cX1_copy 90 = .ok (.imul, 1) := by decide +kernel
theorem dX1_copy_91 : decode cX1_copy 91 = .ok (.iconst 1, 1) := by decide +kernel
theorem dX1_copy_92 : decode cX1_copy 92 = .ok (.iadd, 1) := by decide +kernel
theorem dX1_copy_93 : decode cX1_copy 93 = .ok (.aload_n 0, 1) := by decide +kernel
theorem dX1_copy_94 : decode cX1_copy 94 = .ok (.getfield 7, 3) := by decide +kernel
theorem dX1_copy_97 : decode cX1_copy 97 = .ok (.iconst 2, 1) := by decide +kernel
theorem dX1_copy_98 : decode cX1_copy 98 = .ok (.iload_n 1, 1) := by decide +kernel
theorem dX1_copy_99 : decode cX1_copy 99 = .ok (.imul, 1) := by decide +kernel
theorem dX1_copy_100 : decode cX1_copy 100 = .ok (.iaload, 1) := by decide +kernel
theorem dX1_copy_101 : decode cX1_copy 101 = .ok (.iastore, 1) := by decide +kernel
theorem dX1_copy_102 : decode cX1_copy 102 = .ok (.aload_n 0, 1) := by decide +kernel
theorem dX1_copy_103 : decode cX1_copy 103 = .ok (.getfield 7, 3) := by decide +kernel
theorem dX1_copy_106 : decode cX1_copy 106 = .ok (.iconst 2, 1) := by decide +kernel
theorem dX1_copy_107 : decode cX1_copy 107 = .ok (.iload_n 1, 1) := by decide +kernel
theorem dX1_copy_108 : decode cX1_copy 108 = .ok (.imul, 1) := by decide +kernel
theorem dX1_copy_109 : decode cX1_copy 109 = .ok (.iaload, 1) := by decide +kernel
theorem dX1_copy_110 : decode cX1_copy 110 = .ok (.ireturn, 1) := by decide +kernel
set_option maxRecDepth 20000 in
theorem ggX1_size_X1_isSort : GoodIn wsX1_size wsX1_isSort := goodIn_r _ [6] (by decide +kernel) (by decide +kernel)
set_option maxRecDepth 20000 in
theorem gX1_size_X1_isSort : GoodIn wsX1_size (va_wsS RX1 36 yX1_isSort wsX1_isSort) := goodIn_app (goodIn_of _ (by decide +kernel)) ggX1_size_X1_isSort
theorem dX1_size_0 : decode cX1_size 0 = .ok (.aload_n 0, 1) := by decide +kernel
theorem dX1_size_1 : decode cX1_size 1 = .ok (.iload_n 1, 1) := by decide +kernel
theorem dX1_size_2 : decode cX1_size 2 = .ok (.invokestatic 36, 3) := by decide +kernel
theorem dX1_size_5 : decode cX1_size 5 = .ok (.ifCond .eq 7, 3) := by decide +kernel
theorem dX1_size_8 : decode cX1_size 8 = .ok (.iconst 0, 1) := by decide +kernel
theorem dX1_size_9 : decode cX1_size 9 = .ok (.goto 4, 3) := by decide +kernel
theorem dX1_size_12 : decode cX1_size 12 = .ok (.iconst 1, 1) := by decide +kernel
theorem dX1_size_13 : decode cX1_size 13 = .ok (.putfield 23, 3) := by decide +kernel
theorem dX1_size_16 : decode cX1_size 16 = .ok (.aload_n 0, 1) := by decide +kernel
theorem dX1_size_17 : decode cX1_size 17 = .ok (.getfield 23, 3) := by decide +kernel
theorem dX1_size_20 : decode cX1_size 20 = .ok (.ifCond .ne 24, 3) := by decide +kernel
theorem dX1_size_23 : decode cX1_size 23 = .ok (.aload_n 0, 1) := by decide +kernel
theorem dX1_size_24 : decode cX1_size 24 = .ok (.getfield 7, 3) := by decide +kernel
theorem dX1_size_27 : decode cX1_size 27 = .ok (.iconst 2, 1) := by decide +kernel
theorem dX1_size_28 : decode cX1_size 28 = .ok (.iload_n 1, 1) := by decide +kernel
theorem dX1_size_29 : decode cX1_size 29 = .ok (.imul, 1) := by decide +kernel
theorem dX1_size_30 : decode cX1_size 30 = .ok (.iload_n 2, 1) := by decide +kernel
theorem dX1_size_31 : decode cX1_size 31 = .ok (.ifCond .eq 7, 3) := by decide +kernel
theorem dX1_size_34 : decode cX1_size 34 = .ok (.iconst 1, 1) := by decide +kernel
theorem dX1_size_35 : decode cX1_size 35 = .ok (.goto 4, 3) := by decide +kernel
theorem dX1_size_38 : decode cX1_size 38 = .ok (.iconst 0, 1) := by decide +kernel
theorem dX1_size_39 : decode cX1_size 39 = .ok (.iadd, 1) := by decide +kernel
theorem dX1_size_40 : decode cX1_size 40 = .ok (.iaload, 1) := by decide +kernel
theorem dX1_size_41 : decode cX1_size 41 = .ok (.goto 4, 3) := by decide +kernel
theorem dX1_size_44 : decode cX1_size 44 = .ok (.iconst 0, 1) := by decide +kernel
theorem dX1_size_45 : decode cX1_size 45 = .ok (.ireturn, 1) := by decide +kernel
theorem dX1_refuses_0 : decode cX1_refuses 0 = .ok (.aload_n 0, 1) := by decide +kernel
theorem dX1_refuses_1 : decode cX1_refuses 1 = .ok (.iload_n 1, 1) := by decide +kernel
theorem dX1_refuses_2 : decode cX1_refuses 2 = .ok (.ifCond .eq 7, 3) := by decide +kernel
theorem dX1_refuses_5 : decode cX1_refuses 5 = .ok (.iconst 1, 1) := by decide +kernel
theorem dX1_refuses_6 : decode cX1_refuses 6 = .ok (.goto 22, 3) := by decide +kernel
theorem dX1_refuses_9 : decode cX1_refuses 9 = .ok (.iload_n 2, 1) := by decide +kernel
theorem dX1_refuses_10 : decode cX1_refuses 10 = .ok (.iconst 1, 1) := by decide +kernel
theorem dX1_refuses_11 : decode cX1_refuses 11 = .ok (.if_icmp .ne 7, 3) := by decide +kernel
theorem dX1_refuses_14 : decode cX1_refuses 14 = .ok (.iconst 2, 1) := by decide +kernel
theorem dX1_refuses_15 : decode cX1_refuses 15 = .ok (.goto 13, 3) := by decide +kernel
theorem dX1_refuses_18 : decode cX1_refuses 18 = .ok (.iload_n 2, 1) := by decide +kernel
theorem dX1_refuses_19 : decode cX1_refuses 19 = .ok (.iconst 2, 1) := by decide +kernel
theorem dX1_refuses_20 : decode cX1_refuses 20 = .ok (.if_icmp .ne 7, 3) := by decide +kernel
theorem dX1_refuses_23 : decode cX1_refuses 23 = .ok (.iconst 3, 1) := by decide +kernel
theorem dX1_refuses_24 : decode cX1_refuses 24 = .ok (.goto 4, 3) := by decide +kernel
theorem dX1_refuses_27 : decode cX1_refuses 27 = .ok (.iconst 0, 1) := by decide +kernel
theorem dX1_refuses_28 : decode cX1_refuses 28 = .ok (.putfield 23, 3) := by decide +kernel
theorem dX1_refuses_31 : decode cX1_refuses 31 = .ok (.aload_n 0, 1) := by decide +kernel
theorem dX1_refuses_32 : decode cX1_refuses 32 = .ok (.getfield 23, 3) := by decide +kernel
theorem dX1_refuses_35 : decode cX1_refuses 35 = .ok (.ifCond .eq 7, 3) := by decide +kernel
theorem dX1_refuses_38 : decode cX1_refuses 38 = .ok (.iconst 1, 1) := by decide +kernel
theorem dX1_refuses_39 : decode cX1_refuses 39 = .ok (.goto 4, 3) := by decide +kernel
theorem dX1_refuses_42 : decode cX1_refuses 42 = .ok (.iconst 0, 1) := by decide +kernel
theorem dX1_refuses_43 : decode cX1_refuses 43 = .ok (.ireturn, 1) := by decide +kernel
set_option maxRecDepth 20000 in
theorem ggX1_get_X1_isSort : GoodIn wsX1_get wsX1_isSort := goodIn_r _ [5] (by decide +kernel) (by decide +kernel)
set_option maxRecDepth 20000 in
theorem gX1_get_X1_isSort : GoodIn wsX1_get (va_wsS RX1 36 yX1_isSort wsX1_isSort) := goodIn_app (goodIn_of _ (by decide +kernel)) ggX1_get_X1_isSort
set_option maxRecDepth 20000 in
theorem ggX1_get_X1_lacks : GoodIn wsX1_get wsX1_lacks := goodIn_r _ [9, 10, 19, 20, 21, 22, 23, 24, 25, 26, 27, 28, 29] (by decide +kernel) (by decide +kernel)
set_option maxRecDepth 20000 in
theorem gX1_get_X1_lacks : GoodIn wsX1_get (wsV RX1 50 RX1 yX1_lacks wsX1_lacks) := goodIn_app (goodIn_of _ (by decide +kernel)) ggX1_get_X1_lacks
set_option maxRecDepth 20000 in
theorem ggX1_get_X1_refuses : GoodIn wsX1_get wsX1_refuses := goodIn_r _ [14, 15, 19, 20, 21, 22, 23, 24, 25, 26, 27, 28, 29] (by decide +kernel) (by decide +kernel)
set_option maxRecDepth 20000 in
theorem gX1_get_X1_refuses : GoodIn wsX1_get (wsV RX1 53 RX1 yX1_refuses wsX1_refuses) := goodIn_app (goodIn_of _ (by decide +kernel)) ggX1_get_X1_refuses
set_option maxRecDepth 20000 in
theorem ggX1_get_X1_at : GoodIn wsX1_get wsX1_at := goodIn_r _ [18] (by decide +kernel) (by decide +kernel)
set_option maxRecDepth 20000 in
theorem gX1_get_X1_at : GoodIn wsX1_get (va_wsS RX1 43 yX1_at wsX1_at) := goodIn_app (goodIn_of _ (by decide +kernel)) ggX1_get_X1_at
theorem dX1_get_0 : decode cX1_get 0 = .ok (.aload_n 0, 1) := by decide +kernel
theorem dX1_get_1 : decode cX1_get 1 = .ok (.iload_n 1, 1) := by decide +kernel
theorem dX1_get_2 : decode cX1_get 2 = .ok (.invokestatic 36, 3) := by decide +kernel
theorem dX1_get_5 : decode cX1_get 5 = .ok (.ifCond .ne 7, 3) := by decide +kernel
theorem dX1_get_8 : decode cX1_get 8 = .ok (.iconst 1, 1) := by decide +kernel
theorem dX1_get_9 : decode cX1_get 9 = .ok (.goto 4, 3) := by decide +kernel
theorem dX1_get_12 : decode cX1_get 12 = .ok (.iconst 0, 1) := by decide +kernel
theorem dX1_get_13 : decode cX1_get 13 = .ok (.iload_n 1, 1) := by decide +kernel
theorem dX1_get_14 : decode cX1_get 14 = .ok (.invokestatic 36, 3) := by decide +kernel
theorem dX1_get_17 : decode cX1_get 17 = .ok (.ifCond .eq 12, 3) := by decide +kernel
theorem dX1_get_20 : decode cX1_get 20 = .ok (.aload_n 0, 1) := by decide +kernel
theorem dX1_get_21 : decode cX1_get 21 = .ok (.iload_n 1, 1) := by decide +kernel
theorem dX1_get_22 : decode cX1_get 22 = .ok (.iload_n 2, 1) := by decide +kernel
theorem dX1_get_23 : decode cX1_get 23 = .ok (.invokevirtual 50, 3) := by decide +kernel
theorem dX1_get_26 : decode cX1_get 26 = .ok (.goto 4, 3) := by decide +kernel
theorem dX1_get_29 : decode cX1_get 29 = .ok (.iconst 0, 1) := by decide +kernel
theorem dX1_get_30 : decode cX1_get 30 = .ok (.invokevirtual 53, 3) := by decide +kernel
theorem dX1_get_33 : decode cX1_get 33 = .ok (.ifCond .eq 5, 3) := by decide +kernel
theorem dX1_get_36 : decode cX1_get 36 = .ok (.iconst 0, 1) := by decide +kernel
theorem dX1_get_37 : decode cX1_get 37 = .ok (.ireturn, 1) := by decide +kernel
theorem dX1_get_38 : decode cX1_get 38 = .ok (.aload_n 0, 1) := by decide +kernel
theorem dX1_get_39 : decode cX1_get 39 = .ok (.getfield 13, 3) := by decide +kernel
theorem dX1_get_42 : decode cX1_get 42 = .ok (.iload_n 1, 1) := by decide +kernel
theorem dX1_get_43 : decode cX1_get 43 = .ok (.iload_n 2, 1) := by decide +kernel
theorem dX1_get_44 : decode cX1_get 44 = .ok (.invokestatic 43, 3) := by decide +kernel
theorem dX1_get_47 : decode cX1_get 47 = .ok (.iaload, 1) := by decide +kernel
theorem dX1_get_48 : decode cX1_get 48 = .ok (.ireturn, 1) := by decide +kernel
set_option maxRecDepth 20000 in
theorem ggX1_set_X1_isSort : GoodIn wsX1_set wsX1_isSort := goodIn_r _ [4] (by decide +kernel) (by decide +kernel)
set_option maxRecDepth 20000 in
theorem gX1_set_X1_isSort : GoodIn wsX1_set (va_wsS RX1 36 yX1_isSort wsX1_isSort) := goodIn_app (goodIn_of _ (by decide +kernel)) ggX1_set_X1_isSort
set_option maxRecDepth 20000 in
theorem ggX1_set_X1_lacks : GoodIn wsX1_set wsX1_lacks := goodIn_r _ [8, 9, 34, 35, 36, 37, 38, 39, 40, 41, 42, 43, 44] (by decide +kernel) (by decide +kernel)
set_option maxRecDepth 20000 in
theorem gX1_set_X1_lacks : GoodIn wsX1_set (wsV RX1 50 RX1 yX1_lacks wsX1_lacks) := goodIn_app (goodIn_of _ (by decide +kernel)) ggX1_set_X1_lacks
set_option maxRecDepth 20000 in
theorem ggX1_set_X1_refuses : GoodIn wsX1_set wsX1_refuses := goodIn_r _ [13, 14, 34, 35, 36, 37, 38, 39, 40, 41, 42, 43, 44] (by decide +kernel) (by decide +kernel)
set_option maxRecDepth 20000 in
theorem gX1_set_X1_refuses : GoodIn wsX1_set (wsV RX1 53 RX1 yX1_refuses wsX1_refuses) := goodIn_app (goodIn_of _ (by decide +kernel)) ggX1_set_X1_refuses
set_option maxRecDepth 20000 in
theorem ggX1_set_X1_put : GoodIn wsX1_set wsX1_put := goodIn_r _ [18, 19, 20, 21, 3, 22, 23, 24, 25, 26, 27, 28, 29, 30, 31, 32, 33, 34, 35, 36, 37, 38, 39, 40, 41, 42, 43, 44] (by decide +kernel) (by decide +kernel)
set_option maxRecDepth 20000 in
theorem gX1_set_X1_put : GoodIn wsX1_set (wsV RX1 57 RX1 yX1_put wsX1_put) := goodIn_app (goodIn_of _ (by decide +kernel)) ggX1_set_X1_put
theorem dX1_set_0 : decode cX1_set 0 = .ok (.aload_n 0, 1) := by decide +kernel
theorem dX1_set_1 : decode cX1_set 1 = .ok (.iload_n 1, 1) := by decide +kernel
theorem dX1_set_2 : decode cX1_set 2 = .ok (.invokestatic 36, 3) := by decide +kernel
theorem dX1_set_5 : decode cX1_set 5 = .ok (.ifCond .ne 7, 3) := by decide +kernel
theorem dX1_set_8 : decode cX1_set 8 = .ok (.iconst 1, 1) := by decide +kernel
theorem dX1_set_9 : decode cX1_set 9 = .ok (.goto 4, 3) := by decide +kernel
theorem dX1_set_12 : decode cX1_set 12 = .ok (.iconst 0, 1) := by decide +kernel
theorem dX1_set_13 : decode cX1_set 13 = .ok (.iload_n 1, 1) := by decide +kernel
theorem dX1_set_14 : decode cX1_set 14 = .ok (.invokestatic 36, 3) := by decide +kernel
theorem dX1_set_17 : decode cX1_set 17 = .ok (.ifCond .eq 12, 3) := by decide +kernel
theorem dX1_set_20 : decode cX1_set 20 = .ok (.aload_n 0, 1) := by decide +kernel
theorem dX1_set_21 : decode cX1_set 21 = .ok (.iload_n 1, 1) := by decide +kernel
theorem dX1_set_22 : decode cX1_set 22 = .ok (.iload_n 2, 1) := by decide +kernel
theorem dX1_set_23 : decode cX1_set 23 = .ok (.invokevirtual 50, 3) := by decide +kernel
theorem dX1_set_26 : decode cX1_set 26 = .ok (.goto 4, 3) := by decide +kernel
theorem dX1_set_29 : decode cX1_set 29 = .ok (.iconst 0, 1) := by decide +kernel
theorem dX1_set_30 : decode cX1_set 30 = .ok (.invokevirtual 53, 3) := by decide +kernel
theorem dX1_set_33 : decode cX1_set 33 = .ok (.ifCond .eq 5, 3) := by decide +kernel
theorem dX1_set_36 : decode cX1_set 36 = .ok (.iconst 0, 1) := by decide +kernel
theorem dX1_set_37 : decode cX1_set 37 = .ok (.ireturn, 1) := by decide +kernel
theorem dX1_set_38 : decode cX1_set 38 = .ok (.aload_n 0, 1) := by decide +kernel
theorem dX1_set_39 : decode cX1_set 39 = .ok (.iload_n 1, 1) := by decide +kernel
theorem dX1_set_40 : decode cX1_set 40 = .ok (.iload_n 2, 1) := by decide +kernel
theorem dX1_set_41 : decode cX1_set 41 = .ok (.iload_n 3, 1) := by decide +kernel
theorem dX1_set_42 : decode cX1_set 42 = .ok (.invokevirtual 57, 3) := by decide +kernel
theorem dX1_set_45 : decode cX1_set 45 = .ok (.ireturn, 1) := by decide +kernel
set_option maxRecDepth 20000 in
theorem ggX1_alter_X1_mayAlter : GoodIn wsX1_alter wsX1_mayAlter := goodIn_r _ [5, 6, 7, 8, 9, 4, 10, 11, 12, 13] (by decide +kernel) (by decide +kernel)
set_option maxRecDepth 20000 in
theorem gX1_alter_X1_mayAlter : GoodIn wsX1_alter (va_wsS RX1 60 yX1_mayAlter wsX1_mayAlter) := goodIn_app (goodIn_of _ (by decide +kernel)) ggX1_alter_X1_mayAlter
set_option maxRecDepth 20000 in
theorem ggX1_alter_X1_isSort : GoodIn wsX1_alter wsX1_isSort := goodIn_r _ [10] (by decide +kernel) (by decide +kernel)
set_option maxRecDepth 20000 in
theorem gX1_alter_X1_isSort : GoodIn wsX1_alter (va_wsS RX1 36 yX1_isSort wsX1_isSort) := goodIn_app (goodIn_of _ (by decide +kernel)) ggX1_alter_X1_isSort
set_option maxRecDepth 20000 in
theorem ggX1_alter_X1_lacks : GoodIn wsX1_alter wsX1_lacks := goodIn_r _ [17, 18, 43, 44, 45, 46, 47, 48, 49, 50, 51, 52, 53] (by decide +kernel) (by decide +kernel)
set_option maxRecDepth 20000 in
theorem gX1_alter_X1_lacks : GoodIn wsX1_alter (wsV RX1 50 RX1 yX1_lacks wsX1_lacks) := goodIn_app (goodIn_of _ (by decide +kernel)) ggX1_alter_X1_lacks
set_option maxRecDepth 20000 in
theorem ggX1_alter_X1_refuses : GoodIn wsX1_alter wsX1_refuses := goodIn_r _ [22, 23, 43, 44, 45, 46, 47, 48, 49, 50, 51, 52, 53] (by decide +kernel) (by decide +kernel)
set_option maxRecDepth 20000 in
theorem gX1_alter_X1_refuses : GoodIn wsX1_alter (wsV RX1 53 RX1 yX1_refuses wsX1_refuses) := goodIn_app (goodIn_of _ (by decide +kernel)) ggX1_alter_X1_refuses
set_option maxRecDepth 20000 in
theorem ggX1_alter_X1_held : GoodIn wsX1_alter wsX1_held := goodIn_r _ [26, 27, 28, 29, 6, 7, 30, 31, 4, 32] (by decide +kernel) (by decide +kernel)
set_option maxRecDepth 20000 in
theorem gX1_alter_X1_held : GoodIn wsX1_alter (va_wsS RX1 47 yX1_held wsX1_held) := goodIn_app (goodIn_of _ (by decide +kernel)) ggX1_alter_X1_held
set_option maxRecDepth 20000 in
theorem ggX1_alter_X1_at : GoodIn wsX1_alter wsX1_at := goodIn_r _ [35] (by decide +kernel) (by decide +kernel)
set_option maxRecDepth 20000 in
theorem gX1_alter_X1_at : GoodIn wsX1_alter (va_wsS RX1 43 yX1_at wsX1_at) := goodIn_app (goodIn_of _ (by decide +kernel)) ggX1_alter_X1_at
set_option maxRecDepth 20000 in
theorem ggX1_alter_X1_altered : GoodIn wsX1_alter wsX1_altered := goodIn_r _ [38] (by decide +kernel) (by decide +kernel)
set_option maxRecDepth 20000 in
theorem gX1_alter_X1_altered : GoodIn wsX1_alter (va_wsS RX1 64 yX1_altered wsX1_altered) := goodIn_app (goodIn_of _ (by decide +kernel)) ggX1_alter_X1_altered
set_option maxRecDepth 20000 in
theorem ggX1_alter_X1_put : GoodIn wsX1_alter wsX1_put := goodIn_r _ [42, 1, 33, 34, 4, 35, 24, 25, 26, 27, 28, 29, 6, 7, 30, 31, 32, 43, 44, 45, 46, 47, 48, 49, 50, 51, 52, 53] (by decide +kernel) (by decide +kernel)
set_option maxRecDepth 20000 in
theorem gX1_alter_X1_put : GoodIn wsX1_alter (wsV RX1 57 RX1 yX1_put wsX1_put) := goodIn_app (goodIn_of _ (by decide +kernel)) ggX1_alter_X1_put
theorem dX1_alter_0 : decode cX1_alter 0 = .ok (.aload_n 0, 1) := by decide +kernel
theorem dX1_alter_1 : decode cX1_alter 1 = .ok (.iload_n 1, 1) := by decide +kernel
theorem dX1_alter_2 : decode cX1_alter 2 = .ok (.iload_n 3, 1) := by decide +kernel
theorem dX1_alter_3 : decode cX1_alter 3 = .ok (.iload 4, 2) := by decide +kernel
theorem dX1_alter_5 : decode cX1_alter 5 = .ok (.invokestatic 60, 3) := by decide +kernel
theorem dX1_alter_8 : decode cX1_alter 8 = .ok (.ifCond .ne 7, 3) := by decide +kernel
theorem dX1_alter_11 : decode cX1_alter 11 = .ok (.iconst 1, 1) := by decide +kernel
theorem dX1_alter_12 : decode cX1_alter 12 = .ok (.goto 4, 3) := by decide +kernel
theorem dX1_alter_15 : decode cX1_alter 15 = .ok (.iconst 0, 1) := by decide +kernel
theorem dX1_alter_16 : decode cX1_alter 16 = .ok (.iload_n 1, 1) := by decide +kernel
theorem dX1_alter_17 : decode cX1_alter 17 = .ok (.invokestatic 36, 3) := by decide +kernel
theorem dX1_alter_20 : decode cX1_alter 20 = .ok (.ifCond .eq 12, 3) := by decide +kernel
theorem dX1_alter_23 : decode cX1_alter 23 = .ok (.aload_n 0, 1) := by decide +kernel
theorem dX1_alter_24 : decode cX1_alter 24 = .ok (.iload_n 1, 1) := by decide +kernel
theorem dX1_alter_25 : decode cX1_alter 25 = .ok (.iload_n 2, 1) := by decide +kernel
theorem dX1_alter_26 : decode cX1_alter 26 = .ok (.invokevirtual 50, 3) := by decide +kernel
theorem dX1_alter_29 : decode cX1_alter 29 = .ok (.goto 4, 3) := by decide +kernel
theorem dX1_alter_32 : decode cX1_alter 32 = .ok (.iconst 0, 1) := by decide +kernel
theorem dX1_alter_33 : decode cX1_alter 33 = .ok (.invokevirtual 53, 3) := by decide +kernel
theorem dX1_alter_36 : decode cX1_alter 36 = .ok (.ifCond .eq 5, 3) := by decide +kernel
theorem dX1_alter_39 : decode cX1_alter 39 = .ok (.iconst 0, 1) := by decide +kernel
theorem dX1_alter_40 : decode cX1_alter 40 = .ok (.ireturn, 1) := by decide +kernel
theorem dX1_alter_41 : decode cX1_alter 41 = .ok (.iload_n 1, 1) := by decide +kernel
theorem dX1_alter_42 : decode cX1_alter 42 = .ok (.iconst 3, 1) := by decide +kernel
theorem dX1_alter_43 : decode cX1_alter 43 = .ok (.if_icmp .ne 12, 3) := by decide +kernel
theorem dX1_alter_46 : decode cX1_alter 46 = .ok (.iconst 3, 1) := by decide +kernel
theorem dX1_alter_47 : decode cX1_alter 47 = .ok (.iload 4, 2) := by decide +kernel
theorem dX1_alter_49 : decode cX1_alter 49 = .ok (.invokestatic 47, 3) := by decide +kernel
theorem dX1_alter_52 : decode cX1_alter 52 = .ok (.goto 5, 3) := by decide +kernel
theorem dX1_alter_55 : decode cX1_alter 55 = .ok (.iload 4, 2) := by decide +kernel
theorem dX1_alter_57 : decode cX1_alter 57 = .ok (.istore 5, 2) := by decide +kernel
theorem dX1_alter_59 : decode cX1_alter 59 = .ok (.aload_n 0, 1) := by decide +kernel
theorem dX1_alter_60 : decode cX1_alter 60 = .ok (.iload_n 1, 1) := by decide +kernel
theorem dX1_alter_61 : decode cX1_alter 61 = .ok (.iload_n 2, 1) := by decide +kernel
theorem dX1_alter_62 : decode cX1_alter 62 = .ok (.aload_n 0, 1) := by decide +kernel
theorem dX1_alter_63 : decode cX1_alter 63 = .ok (.getfield 13, 3) := by decide +kernel
theorem dX1_alter_66 : decode cX1_alter 66 = .ok (.iload_n 1, 1) := by decide +kernel
theorem dX1_alter_67 : decode cX1_alter 67 = .ok (.iload_n 2, 1) := by decide +kernel
theorem dX1_alter_68 : decode cX1_alter 68 = .ok (.invokestatic 43, 3) := by decide +kernel
theorem dX1_alter_71 : decode cX1_alter 71 = .ok (.iaload, 1) := by decide +kernel
theorem dX1_alter_72 : decode cX1_alter 72 = .ok (.iload_n 3, 1) := by decide +kernel
theorem dX1_alter_73 : decode cX1_alter 73 = .ok (.iload 5, 2) := by decide +kernel
theorem dX1_alter_75 : decode cX1_alter 75 = .ok (.invokestatic 64, 3) := by decide +kernel
theorem dX1_alter_78 : decode cX1_alter 78 = .ok (.invokevirtual 57, 3) := by decide +kernel
theorem dX1_alter_81 : decode cX1_alter 81 = .ok (.ireturn, 1) := by decide +kernel
theorem dX1_isRow_0 : decode cX1_isRow 0 = .ok (.iload_n 1, 1) := by decide +kernel
theorem dX1_isRow_1 : decode cX1_isRow 1 = .ok (.ifCond .lt 15, 3) := by decide +kernel
theorem dX1_isRow_4 : decode cX1_isRow 4 = .ok (.iload_n 1, 1) := by decide +kernel
theorem dX1_isRow_5 : decode cX1_isRow 5 = .ok (.aload_n 0, 1) := by decide +kernel
theorem dX1_isRow_6 : decode cX1_isRow 6 = .ok (.getfield 67, 3) := by decide +kernel
theorem dX1_isRow_9 : decode cX1_isRow 9 = .ok (.if_icmp .ge 7, 3) := by decide +kernel
theorem dX1_isRow_12 : decode cX1_isRow 12 = .ok (.iconst 1, 1) := by decide +kernel
theorem dX1_isRow_13 : decode cX1_isRow 13 = .ok (.goto 4, 3) := by decide +kernel
theorem dX1_isRow_16 : decode cX1_isRow 16 = .ok (.iconst 0, 1) := by decide +kernel
theorem dX1_isRow_17 : decode cX1_isRow 17 = .ok (.ireturn, 1) := by decide +kernel
theorem dX1_isColumn_0 : decode cX1_isColumn 0 = .ok (.iload_n 1, 1) := by decide +kernel
theorem dX1_isColumn_1 : decode cX1_isColumn 1 = .ok (.ifCond .lt 15, 3) := by decide +kernel
theorem dX1_isColumn_4 : decode cX1_isColumn 4 = .ok (.iload_n 1, 1) := by decide +kernel
theorem dX1_isColumn_5 : decode cX1_isColumn 5 = .ok (.aload_n 0, 1) := by decide +kernel
theorem dX1_isColumn_6 : decode cX1_isColumn 6 = .ok (.getfield 70, 3) := by decide +kernel
theorem dX1_isColumn_9 : decode cX1_isColumn 9 = .ok (.if_icmp .ge 7, 3) := by decide +kernel
theorem dX1_isColumn_12 : decode cX1_isColumn 12 = .ok (.iconst 1, 1) := by decide +kernel
theorem dX1_isColumn_13 : decode cX1_isColumn 13 = .ok (.goto 4, 3) := by decide +kernel
theorem dX1_isColumn_16 : decode cX1_isColumn 16 = .ok (.iconst 0, 1) := by decide +kernel
theorem dX1_isColumn_17 : decode cX1_isColumn 17 = .ok (.ireturn, 1) := by decide +kernel
theorem dX1_weave_0 : decode cX1_weave 0 = .ok (.aload_n 0, 1) := by decide +kernel
theorem dX1_weave_1 : decode cX1_weave 1 = .ok (.iload_n 1, 1) := by decide +kernel
theorem dX1_weave_2 : decode cX1_weave 2 = .ok (.bipush 40, 2) := by decide +kernel
theorem dX1_weave_4 : decode cX1_weave 4 = .ok (.if_icmp .gt 9, 3) := by decide +kernel
theorem dX1_weave_7 : decode cX1_weave 7 = .ok (.iload_n 2, 1) := by decide +kernel
theorem dX1_weave_8 : decode cX1_weave 8 = .ok (.bipush 40, 2) := by decide +kernel
theorem dX1_weave_10 : decode cX1_weave 10 = .ok (.if_icmp .le 7, 3) := by decide +kernel
theorem dX1_weave_13 : decode cX1_weave 13 = .ok (.iconst 1, 1) := by decide +kernel
theorem dX1_weave_14 : decode cX1_weave 14 = .ok (.goto 16, 3) := by decide +kernel
theorem dX1_weave_17 : decode cX1_weave 17 = .ok (.iload_n 1, 1) := by decide +kernel
theorem dX1_weave_18 : decode cX1_weave 18 = .ok (.ifCond .lt 7, 3) := by decide +kernel
theorem dX1_weave_21 : decode cX1_weave 21 = .ok (.iload_n 2, 1) := by decide +kernel
theorem dX1_weave_22 : decode cX1_weave 22 = .ok (.ifCond .ge 7, 3) := by decide +kernel
theorem dX1_weave_25 : decode cX1_weave 25 = .ok (.iconst 2, 1) := by decide +kernel
theorem dX1_weave_26 : decode cX1_weave 26 = .ok (.goto 4, 3) := by decide +kernel
theorem dX1_weave_29 : decode cX1_weave 29 = .ok (.iconst 0, 1) := by decide +kernel
theorem dX1_weave_30 : decode cX1_weave 30 = .ok (.putfield 23, 3) := by decide +kernel
theorem dX1_weave_33 : decode cX1_weave 33 = .ok (.aload_n 0, 1) := by decide +kernel
theorem dX1_weave_34 : decode cX1_weave 34 = .ok (.getfield 23, 3) := by decide +kernel
theorem dX1_weave_37 : decode cX1_weave 37 = .ok (.ifCond .eq 5, 3) := by decide +kernel
theorem dX1_weave_40 : decode cX1_weave 40 = .ok (.iconst 0, 1) := by decide +kernel
theorem dX1_weave_41 : decode cX1_weave 41 = .ok (.ireturn, 1) := by decide +kernel
theorem dX1_weave_42 : decode cX1_weave 42 = .ok (.aload_n 0, 1) := by decide +kernel
theorem dX1_weave_43 : decode cX1_weave 43 = .ok (.iconst 1, 1) := by decide +kernel
theorem dX1_weave_44 : decode cX1_weave 44 = .ok (.putfield 73, 3) := by decide +kernel
theorem dX1_weave_47 : decode cX1_weave 47 = .ok (.aload_n 0, 1) := by decide +kernel
theorem dX1_weave_48 : decode cX1_weave 48 = .ok (.iload_n 1, 1) := by decide +kernel
theorem dX1_weave_49 : decode cX1_weave 49 = .ok (.putfield 67, 3) := by decide +kernel
theorem dX1_weave_52 : decode cX1_weave 52 = .ok (.aload_n 0, 1) := by decide +kernel
theorem dX1_weave_53 : decode cX1_weave 53 = .ok (.iload_n 2, 1) := by decide +kernel
theorem dX1_weave_54 : decode cX1_weave 54 = .ok (.putfield 70, 3) := by decide +kernel
theorem dX1_weave_57 : decode cX1_weave 57 = .ok (.iconst 0, 1) := by decide +kernel
theorem dX1_weave_58 : decode cX1_weave 58 = .ok (.istore_n 3, 1) := by decide +kernel
theorem dX1_weave_59 : decode cX1_weave 59 = .ok (.iload_n 3, 1) := by decide +kernel
theorem dX1_weave_60 : decode cX1_weave 60 = .ok (.sipush 1600, 3) := by decide +kernel
theorem dX1_weave_63 : decode cX1_weave 63 = .ok (.if_icmp .ge 16, 3) := by decide +kernel
theorem dX1_weave_66 : decode cX1_weave 66 = .ok (.aload_n 0, 1) := by decide +kernel
theorem dX1_weave_67 : decode cX1_weave 67 = .ok (.getfield 16, 3) := by decide +kernel
theorem dX1_weave_70 : decode cX1_weave 70 = .ok (.iload_n 3, 1) := by decide +kernel
theorem dX1_weave_71 : decode cX1_weave 71 = .ok (.iconst 0, 1) := by decide +kernel
theorem dX1_weave_72 : decode cX1_weave 72 = .ok (.iastore, 1) := by decide +kernel
theorem dX1_weave_73 : decode cX1_weave 73 = .ok (.iinc 3 1, 3) := by decide +kernel
theorem dX1_weave_76 : decode cX1_weave 76 = .ok (.goto (-17), 3) := by decide +kernel
theorem dX1_weave_79 : decode cX1_weave 79 = .ok (.iconst 0, 1) := by decide +kernel
theorem dX1_weave_80 : decode cX1_weave 80 = .ok (.istore_n 3, 1) := by decide +kernel
theorem dX1_weave_81 : decode cX1_weave 81 = .ok (.iload_n 3, 1) := by decide +kernel
theorem dX1_weave_82 : decode cX1_weave 82 = .ok (.bipush 40, 2) := by decide +kernel
theorem dX1_weave_84 : decode cX1_weave 84 = .ok (.if_icmp .ge 16, 3) := by decide +kernel
theorem dX1_weave_87 : decode cX1_weave 87 = .ok (.aload_n 0, 1) := by decide +kernel
theorem dX1_weave_88 : decode cX1_weave 88 = .ok (.getfield 19, 3) := by decide +kernel
theorem dX1_weave_91 : decode cX1_weave 91 = .ok (.iload_n 3, 1) := by decide +kernel
theorem dX1_weave_92 : decode cX1_weave 92 = .ok (.iconst 0, 1) := by decide +kernel
theorem dX1_weave_93 : decode cX1_weave 93 = .ok (.bastore, 1) := by decide +kernel
theorem dX1_weave_94 : decode cX1_weave 94 = .ok (.iinc 3 1, 3) := by decide +kernel
theorem dX1_weave_97 : decode cX1_weave 97 = .ok (.goto (-16), 3) := by decide +kernel
theorem dX1_weave_100 : decode cX1_weave 100 = .ok (.aload_n 0, 1) := by decide +kernel
theorem dX1_weave_101 : decode cX1_weave 101 = .ok (.getfield 67, 3) := by decide +kernel
theorem dX1_weave_104 : decode cX1_weave 104 = .ok (.aload_n 0, 1) := by decide +kernel
theorem dX1_weave_105 : decode cX1_weave 105 = .ok (.getfield 70, 3) := by decide +kernel
theorem dX1_weave_108 : decode cX1_weave 108 = .ok (.imul, 1) := by decide +kernel
theorem dX1_weave_109 : decode cX1_weave 109 = .ok (.ireturn, 1) := by decide +kernel
theorem dX1_stops_0 : decode cX1_stops 0 = .ok (.iload_n 1, 1) := by decide +kernel
theorem dX1_stops_1 : decode cX1_stops 1 = .ok (.ifCond .ne 5, 3) := by decide +kernel
theorem dX1_stops_4 : decode cX1_stops 4 = .ok (.iconst 0, 1) := by decide +kernel
theorem dX1_stops_5 : decode cX1_stops 5 = .ok (.ireturn, 1) := by decide +kernel
theorem dX1_stops_6 : decode cX1_stops 6 = .ok (.aload_n 0, 1) := by decide +kernel
theorem dX1_stops_7 : decode cX1_stops 7 = .ok (.iload_n 1, 1) := by decide +kernel
theorem dX1_stops_8 : decode cX1_stops 8 = .ok (.putfield 77, 3) := by decide +kernel
theorem dX1_stops_11 : decode cX1_stops 11 = .ok (.aload_n 0, 1) := by decide +kernel
theorem dX1_stops_12 : decode cX1_stops 12 = .ok (.iload_n 2, 1) := by decide +kernel
theorem dX1_stops_13 : decode cX1_stops 13 = .ok (.putfield 80, 3) := by decide +kernel
theorem dX1_stops_16 : decode cX1_stops 16 = .ok (.aload_n 0, 1) := by decide +kernel
theorem dX1_stops_17 : decode cX1_stops 17 = .ok (.iload_n 3, 1) := by decide +kernel
theorem dX1_stops_18 : decode cX1_stops 18 = .ok (.putfield 83, 3) := by decide +kernel
theorem dX1_stops_21 : decode cX1_stops 21 = .ok (.iconst 1, 1) := by decide +kernel
theorem dX1_stops_22 : decode cX1_stops 22 = .ok (.ireturn, 1) := by decide +kernel
set_option maxRecDepth 20000 in
theorem ggX1_stopsAt_X1_lacks : GoodIn wsX1_stopsAt wsX1_lacks := goodIn_r _ [5, 6, 14, 15, 16, 17, 18, 19, 20, 21, 22, 23, 24] (by decide +kernel) (by decide +kernel)
set_option maxRecDepth 20000 in
theorem gX1_stopsAt_X1_lacks : GoodIn wsX1_stopsAt (wsV RX1 50 RX1 yX1_lacks wsX1_lacks) := goodIn_app (goodIn_of _ (by decide +kernel)) ggX1_stopsAt_X1_lacks
set_option maxRecDepth 20000 in
theorem ggX1_stopsAt_X1_stops : GoodIn wsX1_stopsAt wsX1_stops := goodIn_r _ [10, 11, 12, 13, 14, 15, 16, 17, 18, 19, 20, 21, 22, 23, 24] (by decide +kernel) (by decide +kernel)
set_option maxRecDepth 20000 in
theorem gX1_stopsAt_X1_stops : GoodIn wsX1_stopsAt (wsV RX1 86 RX1 yX1_stops wsX1_stops) := goodIn_app (goodIn_of _ (by decide +kernel)) ggX1_stopsAt_X1_stops
theorem dX1_stopsAt_0 : decode cX1_stopsAt 0 = .ok (.aload_n 0, 1) := by decide +kernel
theorem dX1_stopsAt_1 : decode cX1_stopsAt 1 = .ok (.aload_n 0, 1) := by decide +kernel
theorem dX1_stopsAt_2 : decode cX1_stopsAt 2 = .ok (.iload_n 1, 1) := by decide +kernel
theorem dX1_stopsAt_3 : decode cX1_stopsAt 3 = .ok (.iload_n 2, 1) := by decide +kernel
theorem dX1_stopsAt_4 : decode cX1_stopsAt 4 = .ok (.invokevirtual 50, 3) := by decide +kernel
theorem dX1_stopsAt_7 : decode cX1_stopsAt 7 = .ok (.iload_n 1, 1) := by decide +kernel
theorem dX1_stopsAt_8 : decode cX1_stopsAt 8 = .ok (.iload_n 2, 1) := by decide +kernel
theorem dX1_stopsAt_9 : decode cX1_stopsAt 9 = .ok (.invokevirtual 86, 3) := by decide +kernel
theorem dX1_stopsAt_12 : decode cX1_stopsAt 12 = .ok (.ireturn, 1) := by decide +kernel
set_option maxRecDepth 20000 in
theorem ggX1_weaves_X1_stopsAt : GoodIn wsX1_weaves wsX1_stopsAt := goodIn_r _ [8, 9, 10, 11, 7, 12, 13, 14, 15, 16, 17, 18, 19, 20, 39, 40, 41, 42, 43, 44, 45, 46, 47, 48, 49] (by decide +kernel) (by decide +kernel)
set_option maxRecDepth 20000 in
theorem gX1_weaves_X1_stopsAt : GoodIn wsX1_weaves (wsV RX1 89 RX1 yX1_stopsAt wsX1_stopsAt) := goodIn_app (goodIn_of _ (by decide +kernel)) ggX1_weaves_X1_stopsAt
set_option maxRecDepth 20000 in
theorem ggX1_weaves_X1_at : GoodIn wsX1_weaves wsX1_at := goodIn_r _ [23] (by decide +kernel) (by decide +kernel)
set_option maxRecDepth 20000 in
theorem gX1_weaves_X1_at : GoodIn wsX1_weaves (va_wsS RX1 43 yX1_at wsX1_at) := goodIn_app (goodIn_of _ (by decide +kernel)) ggX1_weaves_X1_at
set_option maxRecDepth 20000 in
theorem ggX1_weaves_X1_stops : GoodIn wsX1_weaves wsX1_stops := goodIn_r _ [17, 18, 19, 20, 39, 40, 41, 42, 43, 44, 45, 46, 47, 48, 49] (by decide +kernel) (by decide +kernel)
set_option maxRecDepth 20000 in
theorem gX1_weaves_X1_stops : GoodIn wsX1_weaves (wsV RX1 86 RX1 yX1_stops wsX1_stops) := goodIn_app (goodIn_of _ (by decide +kernel)) ggX1_weaves_X1_stops
set_option maxRecDepth 20000 in
theorem ggX1_weaves_X1_put : GoodIn wsX1_weaves wsX1_put := goodIn_r _ [27, 1, 21, 22, 7, 23, 28, 29, 30, 31, 32, 33, 34, 35, 36, 37, 38, 39, 40, 41, 42, 43, 44, 45, 46, 47, 48, 49] (by decide +kernel) (by decide +kernel)
set_option maxRecDepth 20000 in
theorem gX1_weaves_X1_put : GoodIn wsX1_weaves (wsV RX1 57 RX1 yX1_put wsX1_put) := goodIn_app (goodIn_of _ (by decide +kernel)) ggX1_weaves_X1_put
theorem dX1_weaves_0 : decode cX1_weaves 0 = .ok (.aload_n 0, 1) := by decide +kernel
theorem dX1_weaves_1 : decode cX1_weaves 1 = .ok (.iconst 3, 1) := by decide +kernel
theorem dX1_weaves_2 : decode cX1_weaves 2 = .ok (.iload_n 2, 1) := by decide +kernel
theorem dX1_weaves_3 : decode cX1_weaves 3 = .ok (.invokevirtual 89, 3) := by decide +kernel
theorem dX1_weaves_6 : decode cX1_weaves 6 = .ok (.ifCond .eq 5, 3) := by decide +kernel
theorem dX1_weaves_9 : decode cX1_weaves 9 = .ok (.iconst 0, 1) := by decide +kernel
theorem dX1_weaves_10 : decode cX1_weaves 10 = .ok (.ireturn, 1) := by decide +kernel
theorem dX1_weaves_11 : decode cX1_weaves 11 = .ok (.aload_n 0, 1) := by decide +kernel
theorem dX1_weaves_12 : decode cX1_weaves 12 = .ok (.getfield 13, 3) := by decide +kernel
theorem dX1_weaves_15 : decode cX1_weaves 15 = .ok (.iconst 3, 1) := by decide +kernel
theorem dX1_weaves_16 : decode cX1_weaves 16 = .ok (.iload_n 2, 1) := by decide +kernel
theorem dX1_weaves_17 : decode cX1_weaves 17 = .ok (.invokestatic 43, 3) := by decide +kernel
theorem dX1_weaves_20 : decode cX1_weaves 20 = .ok (.iaload, 1) := by decide +kernel
theorem dX1_weaves_21 : decode cX1_weaves 21 = .ok (.iconst 1, 1) := by decide +kernel
theorem dX1_weaves_22 : decode cX1_weaves 22 = .ok (.if_icmp .ne 7, 3) := by decide +kernel
theorem dX1_weaves_25 : decode cX1_weaves 25 = .ok (.iconst 1, 1) := by decide +kernel
theorem dX1_weaves_26 : decode cX1_weaves 26 = .ok (.goto 4, 3) := by decide +kernel
theorem dX1_weaves_29 : decode cX1_weaves 29 = .ok (.iconst 0, 1) := by decide +kernel
theorem dX1_weaves_30 : decode cX1_weaves 30 = .ok (.istore 4, 2) := by decide +kernel
theorem dX1_weaves_32 : decode cX1_weaves 32 = .ok (.iload 4, 2) := by decide +kernel
theorem dX1_weaves_34 : decode cX1_weaves 34 = .ok (.ifCond .eq 14, 3) := by decide +kernel
theorem dX1_weaves_37 : decode cX1_weaves 37 = .ok (.aload_n 0, 1) := by decide +kernel
theorem dX1_weaves_38 : decode cX1_weaves 38 = .ok (.iconst 0, 1) := by decide +kernel
theorem dX1_weaves_39 : decode cX1_weaves 39 = .ok (.iload_n 2, 1) := by decide +kernel
theorem dX1_weaves_40 : decode cX1_weaves 40 = .ok (.invokevirtual 89, 3) := by decide +kernel
theorem dX1_weaves_43 : decode cX1_weaves 43 = .ok (.ifCond .eq 5, 3) := by decide +kernel
theorem dX1_weaves_46 : decode cX1_weaves 46 = .ok (.iconst 0, 1) := by decide +kernel
theorem dX1_weaves_47 : decode cX1_weaves 47 = .ok (.ireturn, 1) := by decide +kernel
theorem dX1_weaves_48 : decode cX1_weaves 48 = .ok (.iload 4, 2) := by decide +kernel
theorem dX1_weaves_50 : decode cX1_weaves 50 = .ok (.ifCond .eq 16, 3) := by decide +kernel
theorem dX1_weaves_53 : decode cX1_weaves 53 = .ok (.aload_n 0, 1) := by decide +kernel
theorem dX1_weaves_54 : decode cX1_weaves 54 = .ok (.getfield 13, 3) := by decide +kernel
theorem dX1_weaves_57 : decode cX1_weaves 57 = .ok (.iconst 0, 1) := by decide +kernel
theorem dX1_weaves_58 : decode cX1_weaves 58 = .ok (.iload_n 2, 1) := by decide +kernel
theorem dX1_weaves_59 : decode cX1_weaves 59 = .ok (.invokestatic 43, 3) := by decide +kernel
theorem dX1_weaves_62 : decode cX1_weaves 62 = .ok (.iaload, 1) := by decide +kernel
theorem dX1_weaves_63 : decode cX1_weaves 63 = .ok (.goto 4, 3) := by decide +kernel
theorem dX1_weaves_66 : decode cX1_weaves 66 = .ok (.iload_n 3, 1) := by decide +kernel
theorem dX1_weaves_67 : decode cX1_weaves 67 = .ok (.istore 5, 2) := by decide +kernel
theorem dX1_weaves_69 : decode cX1_weaves 69 = .ok (.aload_n 0, 1) := by decide +kernel
theorem dX1_weaves_70 : decode cX1_weaves 70 = .ok (.aload_n 0, 1) := by decide +kernel
theorem dX1_weaves_71 : decode cX1_weaves 71 = .ok (.getfield 19, 3) := by decide +kernel
theorem dX1_weaves_74 : decode cX1_weaves 74 = .ok (.iload_n 1, 1) := by decide +kernel
theorem dX1_weaves_75 : decode cX1_weaves 75 = .ok (.baload, 1) := by decide +kernel
theorem dX1_weaves_76 : decode cX1_weaves 76 = .ok (.ifCond .eq 7, 3) := by decide +kernel
theorem dX1_weaves_79 : decode cX1_weaves 79 = .ok (.iconst 1, 1) := by decide +kernel
theorem dX1_weaves_80 : decode cX1_weaves 80 = .ok (.goto 4, 3) := by decide +kernel
theorem dX1_weaves_83 : decode cX1_weaves 83 = .ok (.iconst 0, 1) := by decide +kernel
theorem dX1_weaves_84 : decode cX1_weaves 84 = .ok (.iconst 5, 1) := by decide +kernel
theorem dX1_weaves_85 : decode cX1_weaves 85 = .ok (.iload_n 2, 1) := by decide +kernel
theorem dX1_weaves_86 : decode cX1_weaves 86 = .ok (.invokevirtual 86, 3) := by decide +kernel
theorem dX1_weaves_89 : decode cX1_weaves 89 = .ok (.ifCond .eq 5, 3) := by decide +kernel
theorem dX1_weaves_92 : decode cX1_weaves 92 = .ok (.iconst 0, 1) := by decide +kernel
theorem dX1_weaves_93 : decode cX1_weaves 93 = .ok (.ireturn, 1) := by decide +kernel
theorem dX1_weaves_94 : decode cX1_weaves 94 = .ok (.aload_n 0, 1) := by decide +kernel
theorem dX1_weaves_95 : decode cX1_weaves 95 = .ok (.getfield 16, 3) := by decide +kernel
theorem dX1_weaves_98 : decode cX1_weaves 98 = .ok (.bipush 40, 2) := by decide +kernel
theorem dX1_weaves_100 : decode cX1_weaves 100 = .ok (.iload_n 1, 1) := by decide +kernel
theorem dX1_weaves_101 : decode cX1_weaves 101 = .ok (.imul, 1) := by decide +kernel
theorem dX1_weaves_102 : decode cX1_weaves 102 = .ok (.iload_n 2, 1) := by decide +kernel
theorem dX1_weaves_103 : decode cX1_weaves 103 = .ok (.iadd, 1) := by decide +kernel
theorem dX1_weaves_104 : decode cX1_weaves 104 = .ok (.iload 5, 2) := by decide +kernel
theorem dX1_weaves_106 : decode cX1_weaves 106 = .ok (.iastore, 1) := by decide +kernel
theorem dX1_weaves_107 : decode cX1_weaves 107 = .ok (.aload_n 0, 1) := by decide +kernel
theorem dX1_weaves_108 : decode cX1_weaves 108 = .ok (.iconst 1, 1) := by decide +kernel
theorem dX1_weaves_109 : decode cX1_weaves 109 = .ok (.iload_n 2, 1) := by decide +kernel
theorem dX1_weaves_110 : decode cX1_weaves 110 = .ok (.invokevirtual 89, 3) := by decide +kernel
theorem dX1_weaves_113 : decode cX1_weaves 113 = .ok (.ifCond .eq 5, 3) := by decide +kernel
theorem dX1_weaves_116 : decode cX1_weaves 116 = .ok (.iconst 0, 1) := by decide +kernel
theorem dX1_weaves_117 : decode cX1_weaves 117 = .ok (.ireturn, 1) := by decide +kernel
theorem dX1_weaves_118 : decode cX1_weaves 118 = .ok (.aload_n 0, 1) := by decide +kernel
theorem dX1_weaves_119 : decode cX1_weaves 119 = .ok (.iconst 1, 1) := by decide +kernel
theorem dX1_weaves_120 : decode cX1_weaves 120 = .ok (.iload_n 2, 1) := by decide +kernel
theorem dX1_weaves_121 : decode cX1_weaves 121 = .ok (.aload_n 0, 1) := by decide +kernel
theorem dX1_weaves_122 : decode cX1_weaves 122 = .ok (.getfield 13, 3) := by decide +kernel
theorem dX1_weaves_125 : decode cX1_weaves 125 = .ok (.iconst 1, 1) := by decide +kernel
theorem dX1_weaves_126 : decode cX1_weaves 126 = .ok (.iload_n 2, 1) := by decide +kernel
theorem dX1_weaves_127 : decode cX1_weaves 127 = .ok (.invokestatic 43, 3) := by decide +kernel
theorem dX1_weaves_130 : decode cX1_weaves 130 = .ok (.iaload, 1) := by decide +kernel
theorem dX1_weaves_131 : decode cX1_weaves 131 = .ok (.iconst 1, 1) := by decide +kernel
theorem dX1_weaves_132 : decode cX1_weaves 132 = .ok (.iadd, 1) := by decide +kernel
theorem dX1_weaves_133 : decode cX1_weaves 133 = .ok (.invokevirtual 57, 3) := by decide +kernel
theorem dX1_weaves_136 : decode cX1_weaves 136 = .ok (.istore 6, 2) := by decide +kernel
theorem dX1_weaves_138 : decode cX1_weaves 138 = .ok (.aload_n 0, 1) := by decide +kernel
theorem dX1_weaves_139 : decode cX1_weaves 139 = .ok (.iconst 2, 1) := by decide +kernel
theorem dX1_weaves_140 : decode cX1_weaves 140 = .ok (.iload_n 2, 1) := by decide +kernel
theorem dX1_weaves_141 : decode cX1_weaves 141 = .ok (.invokevirtual 89, 3) := by decide +kernel
theorem dX1_weaves_144 : decode cX1_weaves 144 = .ok (.ifCond .eq 5, 3) := by decide +kernel
theorem dX1_weaves_147 : decode cX1_weaves 147 = .ok (.iconst 0, 1) := by decide +kernel
theorem dX1_weaves_148 : decode cX1_weaves 148 = .ok (.ireturn, 1) := by decide +kernel
theorem dX1_weaves_149 : decode cX1_weaves 149 = .ok (.aload_n 0, 1) := by decide +kernel
theorem dX1_weaves_150 : decode cX1_weaves 150 = .ok (.iconst 2, 1) := by decide +kernel
theorem dX1_weaves_151 : decode cX1_weaves 151 = .ok (.iload_n 2, 1) := by decide +kernel
theorem dX1_weaves_152 : decode cX1_weaves 152 = .ok (.aload_n 0, 1) := by decide +kernel
theorem dX1_weaves_153 : decode cX1_weaves 153 = .ok (.getfield 13, 3) := by decide +kernel
theorem dX1_weaves_156 : decode cX1_weaves 156 = .ok (.iconst 2, 1) := by decide +kernel
theorem dX1_weaves_157 : decode cX1_weaves 157 = .ok (.iload_n 2, 1) := by decide +kernel
theorem dX1_weaves_158 : decode cX1_weaves 158 = .ok (.invokestatic 43, 3) := by decide +kernel
theorem dX1_weaves_161 : decode cX1_weaves 161 = .ok (.iaload, 1) := by decide +kernel
theorem dX1_weaves_162 : decode cX1_weaves 162 = .ok (.iload 4, 2) := by decide +kernel
theorem dX1_weaves_164 : decode cX1_weaves 164 = .ok (.ifCond .eq 7, 3) := by decide +kernel
theorem dX1_weaves_167 : decode cX1_weaves 167 = .ok (.iconst 2, 1) := by decide +kernel
theorem dX1_weaves_168 : decode cX1_weaves 168 = .ok (.goto 4, 3) := by decide +kernel
theorem dX1_weaves_171 : decode cX1_weaves 171 = .ok (.iconst (-1), 1) := by decide +kernel
theorem dX1_weaves_172 : decode cX1_weaves 172 = .ok (.iadd, 1) := by decide +kernel
theorem dX1_weaves_173 : decode cX1_weaves 173 = .ok (.invokevirtual 57, 3) := by decide +kernel
theorem dX1_weaves_176 : decode cX1_weaves 176 = .ok (.istore 7, 2) := by decide +kernel
theorem dX1_weaves_178 : decode cX1_weaves 178 = .ok (.iload 4, 2) := by decide +kernel
theorem dX1_weaves_180 : decode cX1_weaves 180 = .ok (.ifCond .eq 34, 3) := by decide +kernel
theorem dX1_weaves_183 : decode cX1_weaves 183 = .ok (.aload_n 0, 1) := by decide +kernel
theorem dX1_weaves_184 : decode cX1_weaves 184 = .ok (.iconst 4, 1) := by decide +kernel
theorem dX1_weaves_185 : decode cX1_weaves 185 = .ok (.iload_n 2, 1) := by decide +kernel
theorem dX1_weaves_186 : decode cX1_weaves 186 = .ok (.invokevirtual 89, 3) := by decide +kernel
theorem dX1_weaves_189 : decode cX1_weaves 189 = .ok (.ifCond .eq 5, 3) := by decide +kernel
theorem dX1_weaves_192 : decode cX1_weaves 192 = .ok (.iconst 0, 1) := by decide +kernel
theorem dX1_weaves_193 : decode cX1_weaves 193 = .ok (.ireturn, 1) := by decide +kernel
theorem dX1_weaves_194 : decode cX1_weaves 194 = .ok (.aload_n 0, 1) := by decide +kernel
theorem dX1_weaves_195 : decode cX1_weaves 195 = .ok (.iconst 4, 1) := by decide +kernel
theorem dX1_weaves_196 : decode cX1_weaves 196 = .ok (.iload_n 2, 1) := by decide +kernel
theorem dX1_weaves_197 : decode cX1_weaves 197 = .ok (.aload_n 0, 1) := by decide +kernel
theorem dX1_weaves_198 : decode cX1_weaves 198 = .ok (.getfield 13, 3) := by decide +kernel
theorem dX1_weaves_201 : decode cX1_weaves 201 = .ok (.iconst 4, 1) := by decide +kernel
theorem dX1_weaves_202 : decode cX1_weaves 202 = .ok (.iload_n 2, 1) := by decide +kernel
theorem dX1_weaves_203 : decode cX1_weaves 203 = .ok (.invokestatic 43, 3) := by decide +kernel
theorem dX1_weaves_206 : decode cX1_weaves 206 = .ok (.iaload, 1) := by decide +kernel
theorem dX1_weaves_207 : decode cX1_weaves 207 = .ok (.iconst 1, 1) := by decide +kernel
theorem dX1_weaves_208 : decode cX1_weaves 208 = .ok (.iadd, 1) := by decide +kernel
theorem dX1_weaves_209 : decode cX1_weaves 209 = .ok (.invokevirtual 57, 3) := by decide +kernel
theorem dX1_weaves_212 : decode cX1_weaves 212 = .ok (.istore 8, 2) := by decide +kernel
theorem dX1_weaves_214 : decode cX1_weaves 214 = .ok (.iconst 1, 1) := by decide +kernel
theorem dX1_weaves_215 : decode cX1_weaves 215 = .ok (.ireturn, 1) := by decide +kernel
set_option maxRecDepth 20000 in
theorem ggX1_pass_X1_isRow : GoodIn wsX1_pass wsX1_isRow := goodIn_r _ [12, 13, 51, 52, 53, 54, 55, 56, 57, 58, 59, 60, 61] (by decide +kernel) (by decide +kernel)
set_option maxRecDepth 20000 in
theorem gX1_pass_X1_isRow : GoodIn wsX1_pass (wsV RX1 93 RX1 yX1_isRow wsX1_isRow) := goodIn_app (goodIn_of _ (by decide +kernel)) ggX1_pass_X1_isRow
set_option maxRecDepth 20000 in
theorem ggX1_pass_X1_weaves : GoodIn wsX1_pass wsX1_weaves := goodIn_r _ [17, 18, 19, 20, 21, 22, 23, 11, 24, 25, 26, 27, 28, 29, 30, 31, 32, 33, 4, 5, 7, 34, 35, 36, 37, 38, 39, 40, 41, 42, 43, 1, 44, 45, 46, 47, 48, 49, 50, 51, 52, 53, 54, 55, 56, 57, 58, 59, 60, 61] (by decide +kernel) (by decide +kernel)
set_option maxRecDepth 20000 in
theorem gX1_pass_X1_weaves : GoodIn wsX1_pass (wsV RX1 96 RX1 yX1_weaves wsX1_weaves) := goodIn_app (goodIn_of _ (by decide +kernel)) ggX1_pass_X1_weaves
theorem dX1_pass_0 : decode cX1_pass 0 = .ok (.aload_n 0, 1) := by decide +kernel
theorem dX1_pass_1 : decode cX1_pass 1 = .ok (.iload_n 2, 1) := by decide +kernel
theorem dX1_pass_2 : decode cX1_pass 2 = .ok (.ifCond .lt 9, 3) := by decide +kernel
theorem dX1_pass_5 : decode cX1_pass 5 = .ok (.iload_n 2, 1) := by decide +kernel
theorem dX1_pass_6 : decode cX1_pass 6 = .ok (.ldc 27, 2) := by decide +kernel
theorem dX1_pass_8 : decode cX1_pass 8 = .ok (.if_icmp .le 7, 3) := by decide +kernel
theorem dX1_pass_11 : decode cX1_pass 11 = .ok (.iconst 1, 1) := by decide +kernel
theorem dX1_pass_12 : decode cX1_pass 12 = .ok (.goto 27, 3) := by decide +kernel
theorem dX1_pass_15 : decode cX1_pass 15 = .ok (.aload_n 0, 1) := by decide +kernel
theorem dX1_pass_16 : decode cX1_pass 16 = .ok (.getfield 73, 3) := by decide +kernel
theorem dX1_pass_19 : decode cX1_pass 19 = .ok (.ifCond .ne 7, 3) := by decide +kernel
theorem dX1_pass_22 : decode cX1_pass 22 = .ok (.iconst 2, 1) := by decide +kernel
theorem dX1_pass_23 : decode cX1_pass 23 = .ok (.goto 16, 3) := by decide +kernel
theorem dX1_pass_26 : decode cX1_pass 26 = .ok (.aload_n 0, 1) := by decide +kernel
theorem dX1_pass_27 : decode cX1_pass 27 = .ok (.iload_n 1, 1) := by decide +kernel
theorem dX1_pass_28 : decode cX1_pass 28 = .ok (.invokevirtual 93, 3) := by decide +kernel
theorem dX1_pass_31 : decode cX1_pass 31 = .ok (.ifCond .ne 7, 3) := by decide +kernel
theorem dX1_pass_34 : decode cX1_pass 34 = .ok (.iconst 3, 1) := by decide +kernel
theorem dX1_pass_35 : decode cX1_pass 35 = .ok (.goto 4, 3) := by decide +kernel
theorem dX1_pass_38 : decode cX1_pass 38 = .ok (.iconst 0, 1) := by decide +kernel
theorem dX1_pass_39 : decode cX1_pass 39 = .ok (.putfield 23, 3) := by decide +kernel
theorem dX1_pass_42 : decode cX1_pass 42 = .ok (.aload_n 0, 1) := by decide +kernel
theorem dX1_pass_43 : decode cX1_pass 43 = .ok (.getfield 23, 3) := by decide +kernel
theorem dX1_pass_46 : decode cX1_pass 46 = .ok (.ifCond .eq 5, 3) := by decide +kernel
theorem dX1_pass_49 : decode cX1_pass 49 = .ok (.iconst 0, 1) := by decide +kernel
theorem dX1_pass_50 : decode cX1_pass 50 = .ok (.ireturn, 1) := by decide +kernel
theorem dX1_pass_51 : decode cX1_pass 51 = .ok (.aload_n 0, 1) := by decide +kernel
theorem dX1_pass_52 : decode cX1_pass 52 = .ok (.iconst 0, 1) := by decide +kernel
theorem dX1_pass_53 : decode cX1_pass 53 = .ok (.putfield 77, 3) := by decide +kernel
theorem dX1_pass_56 : decode cX1_pass 56 = .ok (.aload_n 0, 1) := by decide +kernel
theorem dX1_pass_57 : decode cX1_pass 57 = .ok (.iconst 0, 1) := by decide +kernel
theorem dX1_pass_58 : decode cX1_pass 58 = .ok (.putfield 80, 3) := by decide +kernel
theorem dX1_pass_61 : decode cX1_pass 61 = .ok (.aload_n 0, 1) := by decide +kernel
theorem dX1_pass_62 : decode cX1_pass 62 = .ok (.aload_n 0, 1) := by decide +kernel
theorem dX1_pass_63 : decode cX1_pass 63 = .ok (.getfield 70, 3) := by decide +kernel
theorem dX1_pass_66 : decode cX1_pass 66 = .ok (.putfield 83, 3) := by decide +kernel
theorem dX1_pass_69 : decode cX1_pass 69 = .ok (.iconst 0, 1) := by decide +kernel
theorem dX1_pass_70 : decode cX1_pass 70 = .ok (.istore_n 3, 1) := by decide +kernel
theorem dX1_pass_71 : decode cX1_pass 71 = .ok (.iload_n 3, 1) := by decide +kernel
theorem dX1_pass_72 : decode cX1_pass 72 = .ok (.aload_n 0, 1) := by decide +kernel
theorem dX1_pass_73 : decode cX1_pass 73 = .ok (.getfield 70, 3) := by decide +kernel
theorem dX1_pass_76 : decode cX1_pass 76 = .ok (.if_icmp .ge 19, 3) := by decide +kernel
theorem dX1_pass_79 : decode cX1_pass 79 = .ok (.aload_n 0, 1) := by decide +kernel
theorem dX1_pass_80 : decode cX1_pass 80 = .ok (.iload_n 1, 1) := by decide +kernel
theorem dX1_pass_81 : decode cX1_pass 81 = .ok (.iload_n 3, 1) := by decide +kernel
theorem dX1_pass_82 : decode cX1_pass 82 = .ok (.iload_n 2, 1) := by decide +kernel
theorem dX1_pass_83 : decode cX1_pass 83 = .ok (.invokevirtual 96, 3) := by decide +kernel
theorem dX1_pass_86 : decode cX1_pass 86 = .ok (.ifCond .eq 9, 3) := by decide +kernel
theorem dX1_pass_89 : decode cX1_pass 89 = .ok (.iinc 3 1, 3) := by decide +kernel
theorem dX1_pass_92 : decode cX1_pass 92 = .ok (.goto (-21), 3) := by decide +kernel
theorem dX1_pass_95 : decode cX1_pass 95 = .ok (.iload_n 3, 1) := by decide +kernel
theorem dX1_pass_96 : decode cX1_pass 96 = .ok (.ireturn, 1) := by decide +kernel
theorem dX1_stop_0 : decode cX1_stop 0 = .ok (.aload_n 0, 1) := by decide +kernel
theorem dX1_stop_1 : decode cX1_stop 1 = .ok (.iload_n 1, 1) := by decide +kernel
theorem dX1_stop_2 : decode cX1_stop 2 = .ok (.ifCond .lt 8, 3) := by decide +kernel
theorem dX1_stop_5 : decode cX1_stop 5 = .ok (.iload_n 1, 1) := by decide +kernel
theorem dX1_stop_6 : decode cX1_stop 6 = .ok (.iconst 2, 1) := by decide +kernel
theorem dX1_stop_7 : decode cX1_stop 7 = .ok (.if_icmp .le 7, 3) := by decide +kernel
theorem dX1_stop_10 : decode cX1_stop 10 = .ok (.iconst 1, 1) := by decide +kernel
theorem dX1_stop_11 : decode cX1_stop 11 = .ok (.goto 4, 3) := by decide +kernel
theorem dX1_stop_14 : decode cX1_stop 14 = .ok (.iconst 0, 1) := by decide +kernel
theorem dX1_stop_15 : decode cX1_stop 15 = .ok (.putfield 23, 3) := by decide +kernel
theorem dX1_stop_18 : decode cX1_stop 18 = .ok (.aload_n 0, 1) := by decide +kernel
theorem dX1_stop_19 : decode cX1_stop 19 = .ok (.getfield 23, 3) := by decide +kernel
theorem dX1_stop_22 : decode cX1_stop 22 = .ok (.ifCond .eq 5, 3) := by decide +kernel
theorem dX1_stop_25 : decode cX1_stop 25 = .ok (.iconst 0, 1) := by decide +kernel
theorem dX1_stop_26 : decode cX1_stop 26 = .ok (.ireturn, 1) := by decide +kernel
theorem dX1_stop_27 : decode cX1_stop 27 = .ok (.iload_n 1, 1) := by decide +kernel
theorem dX1_stop_28 : decode cX1_stop 28 = .ok (.ifCond .ne 10, 3) := by decide +kernel
theorem dX1_stop_31 : decode cX1_stop 31 = .ok (.aload_n 0, 1) := by decide +kernel
theorem dX1_stop_32 : decode cX1_stop 32 = .ok (.getfield 77, 3) := by decide +kernel
theorem dX1_stop_35 : decode cX1_stop 35 = .ok (.goto 19, 3) := by decide +kernel
theorem dX1_stop_38 : decode cX1_stop 38 = .ok (.iload_n 1, 1) := by decide +kernel
theorem dX1_stop_39 : decode cX1_stop 39 = .ok (.iconst 1, 1) := by decide +kernel
theorem dX1_stop_40 : decode cX1_stop 40 = .ok (.if_icmp .ne 10, 3) := by decide +kernel
theorem dX1_stop_43 : decode cX1_stop 43 = .ok (.aload_n 0, 1) := by decide +kernel
theorem dX1_stop_44 : decode cX1_stop 44 = .ok (.getfield 80, 3) := by decide +kernel
theorem dX1_stop_47 : decode cX1_stop 47 = .ok (.goto 7, 3) := by decide +kernel
theorem dX1_stop_50 : decode cX1_stop 50 = .ok (.aload_n 0, 1) := by decide +kernel
theorem dX1_stop_51 : decode cX1_stop 51 = .ok (.getfield 83, 3) := by decide +kernel
theorem dX1_stop_54 : decode cX1_stop 54 = .ok (.ireturn, 1) := by decide +kernel
set_option maxRecDepth 20000 in
theorem ggX1_cut_X1_isRow : GoodIn wsX1_cut wsX1_isRow := goodIn_r _ [9, 10, 11, 12, 13, 14, 15, 16, 17, 18, 19, 20, 21] (by decide +kernel) (by decide +kernel)
set_option maxRecDepth 20000 in
theorem gX1_cut_X1_isRow : GoodIn wsX1_cut (wsV RX1 93 RX1 yX1_isRow wsX1_isRow) := goodIn_app (goodIn_of _ (by decide +kernel)) ggX1_cut_X1_isRow
theorem dX1_cut_0 : decode cX1_cut 0 = .ok (.aload_n 0, 1) := by decide +kernel
theorem dX1_cut_1 : decode cX1_cut 1 = .ok (.aload_n 0, 1) := by decide +kernel
theorem dX1_cut_2 : decode cX1_cut 2 = .ok (.getfield 73, 3) := by decide +kernel
theorem dX1_cut_5 : decode cX1_cut 5 = .ok (.ifCond .ne 7, 3) := by decide +kernel
theorem dX1_cut_8 : decode cX1_cut 8 = .ok (.iconst 1, 1) := by decide +kernel
theorem dX1_cut_9 : decode cX1_cut 9 = .ok (.goto 29, 3) := by decide +kernel
theorem dX1_cut_12 : decode cX1_cut 12 = .ok (.aload_n 0, 1) := by decide +kernel
theorem dX1_cut_13 : decode cX1_cut 13 = .ok (.iload_n 1, 1) := by decide +kernel
theorem dX1_cut_14 : decode cX1_cut 14 = .ok (.invokevirtual 93, 3) := by decide +kernel
theorem dX1_cut_17 : decode cX1_cut 17 = .ok (.ifCond .ne 7, 3) := by decide +kernel
theorem dX1_cut_20 : decode cX1_cut 20 = .ok (.iconst 2, 1) := by decide +kernel
theorem dX1_cut_21 : decode cX1_cut 21 = .ok (.goto 17, 3) := by decide +kernel
theorem dX1_cut_24 : decode cX1_cut 24 = .ok (.aload_n 0, 1) := by decide +kernel
theorem dX1_cut_25 : decode cX1_cut 25 = .ok (.getfield 19, 3) := by decide +kernel
theorem dX1_cut_28 : decode cX1_cut 28 = .ok (.iload_n 1, 1) := by decide +kernel
theorem dX1_cut_29 : decode cX1_cut 29 = .ok (.baload, 1) := by decide +kernel
theorem dX1_cut_30 : decode cX1_cut 30 = .ok (.ifCond .eq 7, 3) := by decide +kernel
theorem dX1_cut_33 : decode cX1_cut 33 = .ok (.iconst 1, 1) := by decide +kernel
theorem dX1_cut_34 : decode cX1_cut 34 = .ok (.goto 4, 3) := by decide +kernel
theorem dX1_cut_37 : decode cX1_cut 37 = .ok (.iconst 0, 1) := by decide +kernel
theorem dX1_cut_38 : decode cX1_cut 38 = .ok (.putfield 23, 3) := by decide +kernel
theorem dX1_cut_41 : decode cX1_cut 41 = .ok (.aload_n 0, 1) := by decide +kernel
theorem dX1_cut_42 : decode cX1_cut 42 = .ok (.getfield 23, 3) := by decide +kernel
theorem dX1_cut_45 : decode cX1_cut 45 = .ok (.ifCond .eq 5, 3) := by decide +kernel
theorem dX1_cut_48 : decode cX1_cut 48 = .ok (.iconst 0, 1) := by decide +kernel
theorem dX1_cut_49 : decode cX1_cut 49 = .ok (.ireturn, 1) := by decide +kernel
theorem dX1_cut_50 : decode cX1_cut 50 = .ok (.aload_n 0, 1) := by decide +kernel
theorem dX1_cut_51 : decode cX1_cut 51 = .ok (.getfield 19, 3) := by decide +kernel
theorem dX1_cut_54 : decode cX1_cut 54 = .ok (.iload_n 1, 1) := by decide +kernel
theorem dX1_cut_55 : decode cX1_cut 55 = .ok (.iconst 1, 1) := by decide +kernel
theorem dX1_cut_56 : decode cX1_cut 56 = .ok (.bastore, 1) := by decide +kernel
theorem dX1_cut_57 : decode cX1_cut 57 = .ok (.aload_n 0, 1) := by decide +kernel
theorem dX1_cut_58 : decode cX1_cut 58 = .ok (.getfield 70, 3) := by decide +kernel
theorem dX1_cut_61 : decode cX1_cut 61 = .ok (.ireturn, 1) := by decide +kernel
set_option maxRecDepth 20000 in
theorem ggX1_clothLacks_X1_isRow : GoodIn wsX1_clothLacks wsX1_isRow := goodIn_r _ [7, 8, 14, 15, 16, 17, 18, 19, 20, 21, 22, 23, 24] (by decide +kernel) (by decide +kernel)
set_option maxRecDepth 20000 in
theorem gX1_clothLacks_X1_isRow : GoodIn wsX1_clothLacks (wsV RX1 93 RX1 yX1_isRow wsX1_isRow) := goodIn_app (goodIn_of _ (by decide +kernel)) ggX1_clothLacks_X1_isRow
set_option maxRecDepth 20000 in
theorem ggX1_clothLacks_X1_isColumn : GoodIn wsX1_clothLacks wsX1_isColumn := goodIn_r _ [12, 13, 14, 15, 16, 17, 18, 19, 20, 21, 22, 23, 24] (by decide +kernel) (by decide +kernel)
set_option maxRecDepth 20000 in
theorem gX1_clothLacks_X1_isColumn : GoodIn wsX1_clothLacks (wsV RX1 99 RX1 yX1_isColumn wsX1_isColumn) := goodIn_app (goodIn_of _ (by decide +kernel)) ggX1_clothLacks_X1_isColumn
theorem dX1_clothLacks_0 : decode cX1_clothLacks 0 = .ok (.aload_n 0, 1) := by decide +kernel
theorem dX1_clothLacks_1 : decode cX1_clothLacks 1 = .ok (.getfield 73, 3) := by decide +kernel
theorem dX1_clothLacks_4 : decode cX1_clothLacks 4 = .ok (.ifCond .ne 7, 3) := by decide +kernel
theorem dX1_clothLacks_7 : decode cX1_clothLacks 7 = .ok (.iconst 1, 1) := by decide +kernel
theorem dX1_clothLacks_8 : decode cX1_clothLacks 8 = .ok (.goto 41, 3) := by decide +kernel
theorem dX1_clothLacks_11 : decode cX1_clothLacks 11 = .ok (.aload_n 0, 1) := by decide +kernel
theorem dX1_clothLacks_12 : decode cX1_clothLacks 12 = .ok (.iload_n 1, 1) := by decide +kernel
theorem dX1_clothLacks_13 : decode cX1_clothLacks 13 = .ok (.invokevirtual 93, 3) := by decide +kernel
theorem dX1_clothLacks_16 : decode cX1_clothLacks 16 = .ok (.ifCond .ne 7, 3) := by decide +kernel
theorem dX1_clothLacks_19 : decode cX1_clothLacks 19 = .ok (.iconst 2, 1) := by decide +kernel
theorem dX1_clothLacks_20 : decode cX1_clothLacks 20 = .ok (.goto 29, 3) := by decide +kernel
theorem dX1_clothLacks_23 : decode cX1_clothLacks 23 = .ok (.aload_n 0, 1) := by decide +kernel
theorem dX1_clothLacks_24 : decode cX1_clothLacks 24 = .ok (.getfield 19, 3) := by decide +kernel
theorem dX1_clothLacks_27 : decode cX1_clothLacks 27 = .ok (.iload_n 1, 1) := by decide +kernel
theorem dX1_clothLacks_28 : decode cX1_clothLacks 28 = .ok (.baload, 1) := by decide +kernel
theorem dX1_clothLacks_29 : decode cX1_clothLacks 29 = .ok (.ifCond .eq 7, 3) := by decide +kernel
theorem dX1_clothLacks_32 : decode cX1_clothLacks 32 = .ok (.iconst 1, 1) := by decide +kernel
theorem dX1_clothLacks_33 : decode cX1_clothLacks 33 = .ok (.goto 16, 3) := by decide +kernel
theorem dX1_clothLacks_36 : decode cX1_clothLacks 36 = .ok (.aload_n 0, 1) := by decide +kernel
theorem dX1_clothLacks_37 : decode cX1_clothLacks 37 = .ok (.iload_n 2, 1) := by decide +kernel
theorem dX1_clothLacks_38 : decode cX1_clothLacks 38 = .ok (.invokevirtual 99, 3) := by decide +kernel
theorem dX1_clothLacks_41 : decode cX1_clothLacks 41 = .ok (.ifCond .ne 7, 3) := by decide +kernel
theorem dX1_clothLacks_44 : decode cX1_clothLacks 44 = .ok (.iconst 2, 1) := by decide +kernel
theorem dX1_clothLacks_45 : decode cX1_clothLacks 45 = .ok (.goto 4, 3) := by decide +kernel
theorem dX1_clothLacks_48 : decode cX1_clothLacks 48 = .ok (.iconst 0, 1) := by decide +kernel
theorem dX1_clothLacks_49 : decode cX1_clothLacks 49 = .ok (.ireturn, 1) := by decide +kernel
set_option maxRecDepth 20000 in
theorem ggX1_cell_X1_clothLacks : GoodIn wsX1_cell wsX1_clothLacks := goodIn_r _ [7, 8, 9, 10, 11, 12, 6, 13, 14, 15, 16, 17, 18, 19, 20, 21, 22, 23, 24, 25, 26, 27, 28, 29, 30] (by decide +kernel) (by decide +kernel)
set_option maxRecDepth 20000 in
theorem gX1_cell_X1_clothLacks : GoodIn wsX1_cell (wsV RX1 102 RX1 yX1_clothLacks wsX1_clothLacks) := goodIn_app (goodIn_of _ (by decide +kernel)) ggX1_cell_X1_clothLacks
theorem dX1_cell_0 : decode cX1_cell 0 = .ok (.aload_n 0, 1) := by decide +kernel
theorem dX1_cell_1 : decode cX1_cell 1 = .ok (.aload_n 0, 1) := by decide +kernel
theorem dX1_cell_2 : decode cX1_cell 2 = .ok (.iload_n 1, 1) := by decide +kernel
theorem dX1_cell_3 : decode cX1_cell 3 = .ok (.iload_n 2, 1) := by decide +kernel
theorem dX1_cell_4 : decode cX1_cell 4 = .ok (.invokevirtual 102, 3) := by decide +kernel
theorem dX1_cell_7 : decode cX1_cell 7 = .ok (.putfield 23, 3) := by decide +kernel
theorem dX1_cell_10 : decode cX1_cell 10 = .ok (.aload_n 0, 1) := by decide +kernel
theorem dX1_cell_11 : decode cX1_cell 11 = .ok (.getfield 23, 3) := by decide +kernel
theorem dX1_cell_14 : decode cX1_cell 14 = .ok (.ifCond .ne 17, 3) := by decide +kernel
theorem dX1_cell_17 : decode cX1_cell 17 = .ok (.aload_n 0, 1) := by decide +kernel
theorem dX1_cell_18 : decode cX1_cell 18 = .ok (.getfield 16, 3) := by decide +kernel
theorem dX1_cell_21 : decode cX1_cell 21 = .ok (.bipush 40, 2) := by decide +kernel
theorem dX1_cell_23 : decode cX1_cell 23 = .ok (.iload_n 1, 1) := by decide +kernel
theorem dX1_cell_24 : decode cX1_cell 24 = .ok (.imul, 1) := by decide +kernel
theorem dX1_cell_25 : decode cX1_cell 25 = .ok (.iload_n 2, 1) := by decide +kernel
theorem dX1_cell_26 : decode cX1_cell 26 = .ok (.iadd, 1) := by decide +kernel
theorem dX1_cell_27 : decode cX1_cell 27 = .ok (.iaload, 1) := by decide +kernel
theorem dX1_cell_28 : decode cX1_cell 28 = .ok (.goto 4, 3) := by decide +kernel
theorem dX1_cell_31 : decode cX1_cell 31 = .ok (.iconst 0, 1) := by decide +kernel
theorem dX1_cell_32 : decode cX1_cell 32 = .ok (.ireturn, 1) := by decide +kernel
set_option maxRecDepth 20000 in
theorem ggX1_dye_X1_isHow : GoodIn wsX1_dye wsX1_isHow := goodIn_r _ [5] (by decide +kernel) (by decide +kernel)
set_option maxRecDepth 20000 in
theorem gX1_dye_X1_isHow : GoodIn wsX1_dye (va_wsS RX1 40 yX1_isHow wsX1_isHow) := goodIn_app (goodIn_of _ (by decide +kernel)) ggX1_dye_X1_isHow
set_option maxRecDepth 20000 in
theorem ggX1_dye_X1_clothLacks : GoodIn wsX1_dye wsX1_clothLacks := goodIn_r _ [9, 10, 11, 12, 13, 14, 4, 15, 16, 17, 18, 19, 20, 21, 30, 31, 32, 33, 34, 35, 36, 37, 38, 39, 40] (by decide +kernel) (by decide +kernel)
set_option maxRecDepth 20000 in
theorem gX1_dye_X1_clothLacks : GoodIn wsX1_dye (wsV RX1 102 RX1 yX1_clothLacks wsX1_clothLacks) := goodIn_app (goodIn_of _ (by decide +kernel)) ggX1_dye_X1_clothLacks
set_option maxRecDepth 20000 in
theorem ggX1_dye_X1_refuses : GoodIn wsX1_dye wsX1_refuses := goodIn_r _ [25, 26, 30, 31, 32, 33, 34, 35, 36, 37, 38, 39, 40] (by decide +kernel) (by decide +kernel)
set_option maxRecDepth 20000 in
theorem gX1_dye_X1_refuses : GoodIn wsX1_dye (wsV RX1 53 RX1 yX1_refuses wsX1_refuses) := goodIn_app (goodIn_of _ (by decide +kernel)) ggX1_dye_X1_refuses
set_option maxRecDepth 20000 in
theorem ggX1_dye_X1_altered : GoodIn wsX1_dye wsX1_altered := goodIn_r _ [29] (by decide +kernel) (by decide +kernel)
set_option maxRecDepth 20000 in
theorem gX1_dye_X1_altered : GoodIn wsX1_dye (va_wsS RX1 64 yX1_altered wsX1_altered) := goodIn_app (goodIn_of _ (by decide +kernel)) ggX1_dye_X1_altered
theorem dX1_dye_0 : decode cX1_dye 0 = .ok (.aload_n 0, 1) := by decide +kernel
theorem dX1_dye_1 : decode cX1_dye 1 = .ok (.iload_n 3, 1) := by decide +kernel
theorem dX1_dye_2 : decode cX1_dye 2 = .ok (.invokestatic 40, 3) := by decide +kernel
theorem dX1_dye_5 : decode cX1_dye 5 = .ok (.ifCond .ne 7, 3) := by decide +kernel
theorem dX1_dye_8 : decode cX1_dye 8 = .ok (.iconst 1, 1) := by decide +kernel
theorem dX1_dye_9 : decode cX1_dye 9 = .ok (.goto 4, 3) := by decide +kernel
theorem dX1_dye_12 : decode cX1_dye 12 = .ok (.iconst 0, 1) := by decide +kernel
theorem dX1_dye_13 : decode cX1_dye 13 = .ok (.aload_n 0, 1) := by decide +kernel
theorem dX1_dye_14 : decode cX1_dye 14 = .ok (.iload_n 1, 1) := by decide +kernel
theorem dX1_dye_15 : decode cX1_dye 15 = .ok (.iload_n 2, 1) := by decide +kernel
theorem dX1_dye_16 : decode cX1_dye 16 = .ok (.invokevirtual 102, 3) := by decide +kernel
theorem dX1_dye_19 : decode cX1_dye 19 = .ok (.invokevirtual 53, 3) := by decide +kernel
theorem dX1_dye_22 : decode cX1_dye 22 = .ok (.ifCond .eq 5, 3) := by decide +kernel
theorem dX1_dye_25 : decode cX1_dye 25 = .ok (.iconst 0, 1) := by decide +kernel
theorem dX1_dye_26 : decode cX1_dye 26 = .ok (.ireturn, 1) := by decide +kernel
theorem dX1_dye_27 : decode cX1_dye 27 = .ok (.bipush 40, 2) := by decide +kernel
theorem dX1_dye_29 : decode cX1_dye 29 = .ok (.iload_n 1, 1) := by decide +kernel
theorem dX1_dye_30 : decode cX1_dye 30 = .ok (.imul, 1) := by decide +kernel
theorem dX1_dye_31 : decode cX1_dye 31 = .ok (.iload_n 2, 1) := by decide +kernel
theorem dX1_dye_32 : decode cX1_dye 32 = .ok (.iadd, 1) := by decide +kernel
theorem dX1_dye_33 : decode cX1_dye 33 = .ok (.istore 5, 2) := by decide +kernel
theorem dX1_dye_35 : decode cX1_dye 35 = .ok (.aload_n 0, 1) := by decide +kernel
theorem dX1_dye_36 : decode cX1_dye 36 = .ok (.getfield 16, 3) := by decide +kernel
theorem dX1_dye_39 : decode cX1_dye 39 = .ok (.iload 5, 2) := by decide +kernel
theorem dX1_dye_41 : decode cX1_dye 41 = .ok (.aload_n 0, 1) := by decide +kernel
theorem dX1_dye_42 : decode cX1_dye 42 = .ok (.getfield 16, 3) := by decide +kernel
theorem dX1_dye_45 : decode cX1_dye 45 = .ok (.iload 5, 2) := by decide +kernel
theorem dX1_dye_47 : decode cX1_dye 47 = .ok (.iaload, 1) := by decide +kernel
theorem dX1_dye_48 : decode cX1_dye 48 = .ok (.iload_n 3, 1) := by decide +kernel
theorem dX1_dye_49 : decode cX1_dye 49 = .ok (.iload 4, 2) := by decide +kernel
theorem dX1_dye_51 : decode cX1_dye 51 = .ok (.invokestatic 64, 3) := by decide +kernel
theorem dX1_dye_54 : decode cX1_dye 54 = .ok (.iastore, 1) := by decide +kernel
theorem dX1_dye_55 : decode cX1_dye 55 = .ok (.aload_n 0, 1) := by decide +kernel
theorem dX1_dye_56 : decode cX1_dye 56 = .ok (.getfield 16, 3) := by decide +kernel
theorem dX1_dye_59 : decode cX1_dye 59 = .ok (.iload 5, 2) := by decide +kernel
theorem dX1_dye_61 : decode cX1_dye 61 = .ok (.iaload, 1) := by decide +kernel
theorem dX1_dye_62 : decode cX1_dye 62 = .ok (.ireturn, 1) := by decide +kernel
