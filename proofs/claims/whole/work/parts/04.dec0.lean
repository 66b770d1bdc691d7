set_option maxRecDepth 20000 in
theorem ggX0_init_J7_fill_53178 : GoodIn wsX0_init wsJ7_fill_53178 := goodIn_r _ [20] (by decide +kernel) (by decide +kernel)
set_option maxRecDepth 20000 in
theorem gX0_init_J7_fill_53178 : GoodIn wsX0_init (va_wsS RX0 22 yJ7_fill_53178 wsJ7_fill_53178) := goodIn_app (goodIn_of _ (by decide +kernel)) ggX0_init_J7_fill_53178
theorem dX0_init_0 : decode cX0_init 0 = .ok (.aload_n 0, 1) := by decide +kernel
theorem dX0_init_1 : decode cX0_init 1 = .ok (.invokespecial 1, 3) := by decide +kernel
theorem dX0_init_4 : decode cX0_init 4 = .ok (.aload_n 0, 1) := by decide +kernel
theorem dX0_init_5 : decode cX0_init 5 = .ok (.sipush 320, 3) := by decide +kernel
theorem dX0_init_8 : decode cX0_init 8 = .ok (.newarray .int, 2) := by decide +kernel
theorem dX0_init_10 : decode cX0_init 10 = .ok (.putfield 9, 3) := by decide +kernel
theorem dX0_init_13 : decode cX0_init 13 = .ok (.aload_n 0, 1) := by decide +kernel
theorem dX0_init_14 : decode cX0_init 14 = .ok (.iconst 5, 1) := by decide +kernel
theorem dX0_init_15 : decode cX0_init 15 = .ok (.newarray .int, 2) := by decide +kernel
theorem dX0_init_17 : decode cX0_init 17 = .ok (.putfield 13, 3) := by decide +kernel
theorem dX0_init_20 : decode cX0_init 20 = .ok (.aload_n 0, 1) := by decide +kernel
theorem dX0_init_21 : decode cX0_init 21 = .ok (.sipush 320, 3) := by decide +kernel
theorem dX0_init_24 : decode cX0_init 24 = .ok (.newarray .int, 2) := by decide +kernel
theorem dX0_init_26 : decode cX0_init 26 = .ok (.putfield 16, 3) := by decide +kernel
theorem dX0_init_29 : decode cX0_init 29 = .ok (.aload_n 0, 1) := by decide +kernel
theorem dX0_init_30 : decode cX0_init 30 = .ok (.iconst 5, 1) := by decide +kernel
theorem dX0_init_31 : decode cX0_init 31 = .ok (.newarray .int, 2) := by decide +kernel
theorem dX0_init_33 : decode cX0_init 33 = .ok (.putfield 19, 3) := by decide +kernel
theorem dX0_init_36 : decode cX0_init 36 = .ok (.aload_n 0, 1) := by decide +kernel
theorem dX0_init_37 : decode cX0_init 37 = .ok (.getfield 13, 3) := by decide +kernel
theorem dX0_init_40 : decode cX0_init 40 = .ok (.iconst (-1), 1) := by decide +kernel
theorem dX0_init_41 : decode cX0_init 41 = .ok (.invokestatic 22, 3) := by decide +kernel
theorem dX0_init_44 : decode cX0_init 44 = .ok (.aload_n 0, 1) := by decide +kernel
theorem dX0_init_45 : decode cX0_init 45 = .ok (.getfield 19, 3) := by decide +kernel
theorem dX0_init_48 : decode cX0_init 48 = .ok (.iconst (-1), 1) := by decide +kernel
theorem dX0_init_49 : decode cX0_init 49 = .ok (.invokestatic 22, 3) := by decide +kernel
theorem dX0_init_52 : decode cX0_init 52 = .ok (.aload_n 0, 1) := by decide +kernel
theorem dX0_init_53 : decode cX0_init 53 = .ok (.sipush 1600, 3) := by decide +kernel
theorem dX0_init_56 : decode cX0_init 56 = .ok (.newarray .int, 2) := by decide +kernel
theorem dX0_init_58 : decode cX0_init 58 = .ok (.putfield 28, 3) := by decide +kernel
theorem dX0_init_61 : decode cX0_init 61 = .ok (.aload_n 0, 1) := by decide +kernel
theorem dX0_init_62 : decode cX0_init 62 = .ok (.bipush 40, 2) := by decide +kernel
theorem dX0_init_64 : decode cX0_init 64 = .ok (.newarray .boolean, 2) := by decide +kernel
theorem dX0_init_66 : decode cX0_init 66 = .ok (.putfield 31, 3) := by decide +kernel
theorem dX0_init_69 : decode cX0_init 69 = .ok (.aload_n 0, 1) := by decide +kernel
theorem dX0_init_70 : decode cX0_init 70 = .ok (.iconst (-1), 1) := by decide +kernel
theorem dX0_init_71 : decode cX0_init 71 = .ok (.putfield 35, 3) := by decide +kernel
theorem dX0_init_74 : decode cX0_init 74 = .ok (.aload_n 0, 1) := by decide +kernel
theorem dX0_init_75 : decode cX0_init 75 = .ok (.iconst (-1), 1) := by decide +kernel
theorem dX0_init_76 : decode cX0_init 76 = .ok (.putfield 39, 3) := by decide +kernel
theorem dX0_init_79 : decode cX0_init 79 = .ok (.aload_n 0, 1) := by decide +kernel
theorem dX0_init_80 : decode cX0_init 80 = .ok (.iconst 0, 1) := by decide +kernel
theorem dX0_init_81 : decode cX0_init 81 = .ok (.putfield 42, 3) := by decide +kernel
theorem dX0_init_84 : decode cX0_init 84 = .ok (.aload_n 0, 1) := by decide +kernel
theorem dX0_init_85 : decode cX0_init 85 = .ok (.iconst 0, 1) := by decide +kernel
theorem dX0_init_86 : decode cX0_init 86 = .ok (.putfield 45, 3) := by decide +kernel
theorem dX0_init_89 : decode cX0_init 89 = .ok (.aload_n 0, 1) := by decide +kernel
theorem dX0_init_90 : decode cX0_init 90 = .ok (.iconst 0, 1) := by decide +kernel
theorem dX0_init_91 : decode cX0_init 91 = .ok (.putfield 48, 3) := by decide +kernel
theorem dX0_init_94 : decode cX0_init 94 = .ok (.return_, 1) := by decide +kernel
set_option maxRecDepth 20000 in
theorem ggX0_mount_X0_requireSort : GoodIn wsX0_mount wsX0_requireSort := goodIn_ca (goodIn_r _ [8, 1, 2] (by decide +kernel) (by decide +kernel)) (goodIn_sub (fun _ h => List.mem_cons_of_mem _ (List.mem_append_right _ h)) (by decide +kernel))
set_option maxRecDepth 20000 in
theorem gX0_mount_X0_requireSort : GoodIn wsX0_mount (va_wsS RX0 51 yX0_requireSort wsX0_requireSort) := goodIn_app (goodIn_of _ (by decide +kernel)) ggX0_mount_X0_requireSort
set_option maxRecDepth 20000 in
theorem ggX0_mount_X0_reelIndex : GoodIn wsX0_mount wsX0_reelIndex := goodIn_r _ [11] (by decide +kernel) (by decide +kernel)
set_option maxRecDepth 20000 in
theorem gX0_mount_X0_reelIndex : GoodIn wsX0_mount (va_wsS RX0 62 yX0_reelIndex wsX0_reelIndex) := goodIn_app (goodIn_of _ (by decide +kernel)) ggX0_mount_X0_reelIndex
theorem dX0_mount_0 : decode cX0_mount 0 = .ok (.iload_n 1, 1) := by decide +kernel
theorem dX0_mount_1 : decode cX0_mount 1 = .ok (.invokestatic 51, 3) := by decide +kernel
theorem dX0_mount_4 : decode cX0_mount 4 = .ok (.iload_n 2, 1) := by decide +kernel
theorem dX0_mount_5 : decode cX0_mount 5 = .ok (.ifCond .lt 9, 3) := by decide +kernel
theorem dX0_mount_8 : decode cX0_mount 8 = .ok (.iload_n 2, 1) := by decide +kernel
theorem dX0_mount_9 : decode cX0_mount 9 = .ok (.bipush 64, 2) := by decide +kernel
theorem dX0_mount_11 : decode cX0_mount 11 = .ok (.if_icmp .le 13, 3) := by decide +kernel
theorem dX0_mount_14 : decode cX0_mount 14 = .ok (.new 55, 3) := by decide +kernel
theorem dX0_mount_17 : decode cX0_mount 17 = .ok (.dup, 1) := by decide +kernel
theorem dX0_mount_18 : decode cX0_mount 18 = .ok (.ldc 57, 2) := by decide +kernel
theorem dX0_mount_20 : decode cX0_mount 20 = .ok (.invokespecial 59, 3) := by decide +kernel
theorem dX0_mount_23 : decode cX0_mount 23 = .ok (.athrow, 1) := by decide +kernel
theorem dX0_mount_24 : decode cX0_mount 24 = .ok (.aload_n 0, 1) := by decide +kernel
theorem dX0_mount_25 : decode cX0_mount 25 = .ok (.getfield 13, 3) := by decide +kernel
theorem dX0_mount_28 : decode cX0_mount 28 = .ok (.iload_n 1, 1) := by decide +kernel
theorem dX0_mount_29 : decode cX0_mount 29 = .ok (.iaload, 1) := by decide +kernel
theorem dX0_mount_30 : decode cX0_mount 30 = .ok (.istore_n 3, 1) := by decide +kernel
theorem dX0_mount_31 : decode cX0_mount 31 = .ok (.iconst 0, 1) := by decide +kernel
theorem dX0_mount_32 : decode cX0_mount 32 = .ok (.istore 4, 2) := by decide +kernel
theorem dX0_mount_34 : decode cX0_mount 34 = .ok (.iload 4, 2) := by decide +kernel
theorem dX0_mount_36 : decode cX0_mount 36 = .ok (.iload_n 2, 1) := by decide +kernel
theorem dX0_mount_37 : decode cX0_mount 37 = .ok (.if_icmp .ge 21, 3) := by decide +kernel
theorem dX0_mount_40 : decode cX0_mount 40 = .ok (.aload_n 0, 1) := by decide +kernel
theorem dX0_mount_41 : decode cX0_mount 41 = .ok (.getfield 9, 3) := by decide +kernel
theorem dX0_mount_44 : decode cX0_mount 44 = .ok (.iload_n 1, 1) := by decide +kernel
theorem dX0_mount_45 : decode cX0_mount 45 = .ok (.iload 4, 2) := by decide +kernel
theorem dX0_mount_47 : decode cX0_mount 47 = .ok (.invokestatic 62, 3) := by decide +kernel
theorem dX0_mount_50 : decode cX0_mount 50 = .ok (.iconst 0, 1) := by decide +kernel
theorem dX0_mount_51 : decode cX0_mount 51 = .ok (.iastore, 1) := by decide +kernel
theorem dX0_mount_52 : decode cX0_mount 52 = .ok (.iinc 4 1, 3) := by decide +kernel
theorem dX0_mount_55 : decode cX0_mount 55 = .ok (.goto (-21), 3) := by decide +kernel
theorem dX0_mount_58 : decode cX0_mount 58 = .ok (.aload_n 0, 1) := by decide +kernel
theorem dX0_mount_59 : decode cX0_mount 59 = .ok (.getfield 13, 3) := by decide +kernel
theorem dX0_mount_62 : decode cX0_mount 62 = .ok (.iload_n 1, 1) := by decide +kernel
theorem dX0_mount_63 : decode cX0_mount 63 = .ok (.iload_n 2, 1) := by decide +kernel
theorem dX0_mount_64 : decode cX0_mount 64 = .ok (.iastore, 1) := by decide +kernel
theorem dX0_mount_65 : decode cX0_mount 65 = .ok (.iload_n 3, 1) := by decide +kernel
theorem dX0_mount_66 : decode cX0_mount 66 = .ok (.ireturn, 1) := by decide +kernel
set_option maxRecDepth 20000 in
theorem ggX0_off_X0_requireSort : GoodIn wsX0_off wsX0_requireSort := goodIn_ca (goodIn_r _ [5, 6, 7] (by decide +kernel) (by decide +kernel)) (goodIn_sub (fun _ h => List.mem_cons_of_mem _ (List.mem_append_left _ (List.mem_append_right _ h))) (by decide +kernel))
set_option maxRecDepth 20000 in
theorem gX0_off_X0_requireSort : GoodIn wsX0_off (va_wsS RX0 51 yX0_requireSort wsX0_requireSort) := goodIn_app (goodIn_of _ (by decide +kernel)) ggX0_off_X0_requireSort
set_option maxRecDepth 20000 in
theorem ggX0_off_X0_requireMounted : GoodIn wsX0_off wsX0_requireMounted := goodIn_ca (goodIn_r _ [11, 12, 13, 1, 14, 15, 16, 17, 18, 19, 20, 21, 22, 23, 24] (by decide +kernel) (by decide +kernel)) (goodIn_sub (fun _ h => List.mem_cons_of_mem _ (List.mem_append_right _ h)) (by decide +kernel))
set_option maxRecDepth 20000 in
theorem gX0_off_X0_requireMounted : GoodIn wsX0_off (wsV RX0 66 RX0 yX0_requireMounted wsX0_requireMounted) := goodIn_app (goodIn_of _ (by decide +kernel)) ggX0_off_X0_requireMounted
theorem dX0_off_0 : decode cX0_off 0 = .ok (.iload_n 1, 1) := by decide +kernel
theorem dX0_off_1 : decode cX0_off 1 = .ok (.invokestatic 51, 3) := by decide +kernel
theorem dX0_off_4 : decode cX0_off 4 = .ok (.aload_n 0, 1) := by decide +kernel
theorem dX0_off_5 : decode cX0_off 5 = .ok (.iload_n 1, 1) := by decide +kernel
theorem dX0_off_6 : decode cX0_off 6 = .ok (.invokevirtual 66, 3) := by decide +kernel
theorem dX0_off_9 : decode cX0_off 9 = .ok (.aload_n 0, 1) := by decide +kernel
theorem dX0_off_10 : decode cX0_off 10 = .ok (.getfield 13, 3) := by decide +kernel
theorem dX0_off_13 : decode cX0_off 13 = .ok (.iload_n 1, 1) := by decide +kernel
theorem dX0_off_14 : decode cX0_off 14 = .ok (.iaload, 1) := by decide +kernel
theorem dX0_off_15 : decode cX0_off 15 = .ok (.istore_n 2, 1) := by decide +kernel
theorem dX0_off_16 : decode cX0_off 16 = .ok (.aload_n 0, 1) := by decide +kernel
theorem dX0_off_17 : decode cX0_off 17 = .ok (.getfield 13, 3) := by decide +kernel
theorem dX0_off_20 : decode cX0_off 20 = .ok (.iload_n 1, 1) := by decide +kernel
theorem dX0_off_21 : decode cX0_off 21 = .ok (.iconst (-1), 1) := by decide +kernel
theorem dX0_off_22 : decode cX0_off 22 = .ok (.iastore, 1) := by decide +kernel
theorem dX0_off_23 : decode cX0_off 23 = .ok (.iload_n 2, 1) := by decide +kernel
theorem dX0_off_24 : decode cX0_off 24 = .ok (.ireturn, 1) := by decide +kernel
set_option maxRecDepth 20000 in
theorem ggX0_swap_X0_requireSort : GoodIn wsX0_swap wsX0_requireSort := goodIn_ca (goodIn_r _ [8, 9, 10] (by decide +kernel) (by decide +kernel)) (goodIn_sub (fun _ h => List.mem_cons_of_mem _ (List.mem_append_right _ h)) (by decide +kernel))
set_option maxRecDepth 20000 in
theorem gX0_swap_X0_requireSort : GoodIn wsX0_swap (va_wsS RX0 51 yX0_requireSort wsX0_requireSort) := goodIn_app (goodIn_of _ (by decide +kernel)) ggX0_swap_X0_requireSort
set_option maxRecDepth 20000 in
theorem ggX0_swap_X0_reelIndex : GoodIn wsX0_swap wsX0_reelIndex := goodIn_r _ [13] (by decide +kernel) (by decide +kernel)
set_option maxRecDepth 20000 in
theorem gX0_swap_X0_reelIndex : GoodIn wsX0_swap (va_wsS RX0 62 yX0_reelIndex wsX0_reelIndex) := goodIn_app (goodIn_of _ (by decide +kernel)) ggX0_swap_X0_reelIndex
theorem dX0_swap_0 : decode cX0_swap 0 = .ok (.iload_n 1, 1) := by decide +kernel
theorem dX0_swap_1 : decode cX0_swap 1 = .ok (.invokestatic 51, 3) := by decide +kernel
theorem dX0_swap_4 : decode cX0_swap 4 = .ok (.iconst 0, 1) := by decide +kernel
theorem dX0_swap_5 : decode cX0_swap 5 = .ok (.istore_n 2, 1) := by decide +kernel
theorem dX0_swap_6 : decode cX0_swap 6 = .ok (.iload_n 2, 1) := by decide +kernel
theorem dX0_swap_7 : decode cX0_swap 7 = .ok (.bipush 64, 2) := by decide +kernel
theorem dX0_swap_9 : decode cX0_swap 9 = .ok (.if_icmp .ge 43, 3) := by decide +kernel
theorem dX0_swap_12 : decode cX0_swap 12 = .ok (.iload_n 1, 1) := by decide +kernel
theorem dX0_swap_13 : decode cX0_swap 13 = .ok (.iload_n 2, 1) := by decide +kernel
theorem dX0_swap_14 : decode cX0_swap 14 = .ok (.invokestatic 62, 3) := by decide +kernel
theorem dX0_swap_17 : decode cX0_swap 17 = .ok (.istore_n 3, 1) := by decide +kernel
theorem dX0_swap_18 : decode cX0_swap 18 = .ok (.aload_n 0, 1) := by decide +kernel
theorem dX0_swap_19 : decode cX0_swap 19 = .ok (.getfield 9, 3) := by decide +kernel
theorem dX0_swap_22 : decode cX0_swap 22 = .ok (.iload_n 3, 1) := by decide +kernel
theorem dX0_swap_23 : decode cX0_swap 23 = .ok (.iaload, 1) := by decide +kernel
theorem dX0_swap_24 : decode cX0_swap 24 = .ok (.istore 4, 2) := by decide +kernel
theorem dX0_swap_26 : decode cX0_swap 26 = .ok (.aload_n 0, 1) := by decide +kernel
theorem dX0_swap_27 : decode cX0_swap 27 = .ok (.getfield 9, 3) := by decide +kernel
theorem dX0_swap_30 : decode cX0_swap 30 = .ok (.iload_n 3, 1) := by decide +kernel
theorem dX0_swap_31 : decode cX0_swap 31 = .ok (.aload_n 0, 1) := by decide +kernel
theorem dX0_swap_32 : decode cX0_swap 32 = .ok (.getfield 16, 3) := by decide +kernel
theorem dX0_swap_35 : decode cX0_swap 35 = .ok (.iload_n 3, 1) := by decide +kernel
theorem dX0_swap_36 : decode cX0_swap 36 = .ok (.iaload, 1) := by decide +kernel
theorem dX0_swap_37 : decode cX0_swap 37 = .ok (.iastore, 1) := by decide +kernel
theorem dX0_swap_38 : decode cX0_swap 38 = .ok (.aload_n 0, 1) := by decide +kernel
theorem dX0_swap_39 : decode cX0_swap 39 = .ok (.getfield 16, 3) := by decide +kernel
theorem dX0_swap_42 : decode cX0_swap 42 = .ok (.iload_n 3, 1) := by decide +kernel
theorem dX0_swap_43 : decode cX0_swap 43 = .ok (.iload 4, 2) := by decide +kernel
theorem dX0_swap_45 : decode cX0_swap 45 = .ok (.iastore, 1) := by decide +kernel
theorem dX0_swap_46 : decode cX0_swap 46 = .ok (.iinc 2 1, 3) := by decide +kernel
theorem dX0_swap_49 : decode cX0_swap 49 = .ok (.goto (-43), 3) := by decide +kernel
theorem dX0_swap_52 : decode cX0_swap 52 = .ok (.aload_n 0, 1) := by decide +kernel
theorem dX0_swap_53 : decode cX0_swap 53 = .ok (.getfield 13, 3) := by decide +kernel
theorem dX0_swap_56 : decode cX0_swap 56 = .ok (.iload_n 1, 1) := by decide +kernel
theorem dX0_swap_57 : decode cX0_swap 57 = .ok (.iaload, 1) := by decide +kernel
theorem dX0_swap_58 : decode cX0_swap 58 = .ok (.istore_n 2, 1) := by decide +kernel
theorem dX0_swap_59 : decode cX0_swap 59 = .ok (.aload_n 0, 1) := by decide +kernel
theorem dX0_swap_60 : decode cX0_swap 60 = .ok (.getfield 13, 3) := by decide +kernel
theorem dX0_swap_63 : decode cX0_swap 63 = .ok (.iload_n 1, 1) := by decide +kernel
theorem dX0_swap_64 : decode cX0_swap 64 = .ok (.aload_n 0, 1) := by decide +kernel
theorem dX0_swap_65 : decode cX0_swap 65 = .ok (.getfield 19, 3) := by decide +kernel
theorem dX0_swap_68 : decode cX0_swap 68 = .ok (.iload_n 1, 1) := by decide +kernel
theorem dX0_swap_69 : decode cX0_swap 69 = .ok (.iaload, 1) := by decide +kernel
theorem dX0_swap_70 : decode cX0_swap 70 = .ok (.iastore, 1) := by decide +kernel
theorem dX0_swap_71 : decode cX0_swap 71 = .ok (.aload_n 0, 1) := by decide +kernel
theorem dX0_swap_72 : decode cX0_swap 72 = .ok (.getfield 19, 3) := by decide +kernel
theorem dX0_swap_75 : decode cX0_swap 75 = .ok (.iload_n 1, 1) := by decide +kernel
theorem dX0_swap_76 : decode cX0_swap 76 = .ok (.iload_n 2, 1) := by decide +kernel
theorem dX0_swap_77 : decode cX0_swap 77 = .ok (.iastore, 1) := by decide +kernel
theorem dX0_swap_78 : decode cX0_swap 78 = .ok (.aload_n 0, 1) := by decide +kernel
theorem dX0_swap_79 : decode cX0_swap 79 = .ok (.getfield 13, 3) := by decide +kernel
theorem dX0_swap_82 : decode cX0_swap 82 = .ok (.iload_n 1, 1) := by decide +kernel
theorem dX0_swap_83 : decode cX0_swap 83 = .ok (.iaload, 1) := by decide +kernel
theorem dX0_swap_84 : decode cX0_swap 84 = .ok (.ireturn, 1) := by decide +kernel
set_option maxRecDepth 20000 in
theorem ggX0_copy_X0_requireSort : GoodIn wsX0_copy wsX0_requireSort := goodIn_ca (goodIn_r _ [8, 9, 10] (by decide +kernel) (by decide +kernel)) (goodIn_sub (fun _ h => List.mem_cons_of_mem _ (List.mem_append_left _ (List.mem_append_right _ h))) (by decide +kernel))
set_option maxRecDepth 20000 in
theorem gX0_copy_X0_requireSort : GoodIn wsX0_copy (va_wsS RX0 51 yX0_requireSort wsX0_requireSort) := goodIn_app (goodIn_of _ (by decide +kernel)) ggX0_copy_X0_requireSort
set_option maxRecDepth 20000 in
theorem ggX0_copy_X0_requireMounted : GoodIn wsX0_copy wsX0_requireMounted := goodIn_ca (goodIn_r _ [14, 15, 16, 1, 20, 21, 22, 23, 24, 25, 26, 27, 28, 29, 30] (by decide +kernel) (by decide +kernel)) (goodIn_sub (fun _ h => List.mem_cons_of_mem _ (List.mem_append_right _ h)) (by decide +kernel))
set_option maxRecDepth 20000 in
theorem gX0_copy_X0_requireMounted : GoodIn wsX0_copy (wsV RX0 66 RX0 yX0_requireMounted wsX0_requireMounted) := goodIn_app (goodIn_of _ (by decide +kernel)) ggX0_copy_X0_requireMounted
set_option maxRecDepth 20000 in
theorem ggX0_copy_X0_reelIndex : GoodIn wsX0_copy wsX0_reelIndex := goodIn_r _ [19] (by decide +kernel) (by decide +kernel)
set_option maxRecDepth 20000 in
theorem gX0_copy_X0_reelIndex : GoodIn wsX0_copy (va_wsS RX0 62 yX0_reelIndex wsX0_reelIndex) := goodIn_app (goodIn_of _ (by decide +kernel)) ggX0_copy_X0_reelIndex
theorem dX0_copy_0 : decode cX0_copy 0 = .ok (.iload_n 1, 1) := by decide +kernel
theorem dX0_copy_1 : decode cX0_copy 1 = .ok (.invokestatic 51, 3) := by decide +kernel
theorem dX0_copy_4 : decode cX0_copy 4 = .ok (.aload_n 0, 1) := by decide +kernel
theorem dX0_copy_5 : decode cX0_copy 5 = .ok (.iload_n 1, 1) := by decide +kernel
theorem dX0_copy_6 : decode cX0_copy 6 = .ok (.invokevirtual 66, 3) := by decide +kernel
theorem dX0_copy_9 : decode cX0_copy 9 = .ok (.aload_n 0, 1) := by decide +kernel
theorem dX0_copy_10 : decode cX0_copy 10 = .ok (.getfield 13, 3) := by decide +kernel
theorem dX0_copy_13 : decode cX0_copy 13 = .ok (.iload_n 1, 1) := by decide +kernel
theorem dX0_copy_14 : decode cX0_copy 14 = .ok (.iaload, 1) := by decide +kernel
theorem dX0_copy_15 : decode cX0_copy 15 = .ok (.istore_n 2, 1) := by decide +kernel
theorem dX0_copy_16 : decode cX0_copy 16 = .ok (.iconst 0, 1) := by decide +kernel
theorem dX0_copy_17 : decode cX0_copy 17 = .ok (.istore_n 3, 1) := by decide +kernel
theorem dX0_copy_18 : decode cX0_copy 18 = .ok (.iload_n 3, 1) := by decide +kernel
theorem dX0_copy_19 : decode cX0_copy 19 = .ok (.iload_n 2, 1) := by decide +kernel
theorem dX0_copy_20 : decode cX0_copy 20 = .ok (.if_icmp .ge 30, 3) := by decide +kernel
theorem dX0_copy_23 : decode cX0_copy 23 = .ok (.iload_n 1, 1) := by decide +kernel
theorem dX0_copy_24 : decode cX0_copy 24 = .ok (.iload_n 3, 1) := by decide +kernel
theorem dX0_copy_25 : decode cX0_copy 25 = .ok (.invokestatic 62, 3) := by decide +kernel
theorem dX0_copy_28 : decode cX0_copy 28 = .ok (.istore 4, 2) := by decide +kernel
theorem dX0_copy_30 : decode cX0_copy 30 = .ok (.aload_n 0, 1) := by decide +kernel
theorem dX0_copy_31 : decode cX0_copy 31 = .ok (.getfield 16, 3) := by decide +kernel
theorem dX0_copy_34 : decode cX0_copy 34 = .ok (.iload 4, 2) := by decide +kernel
theorem dX0_copy_36 : decode cX0_copy 36 = .ok (.aload_n 0, 1) := by decide +kernel
theorem dX0_copy_37 : decode cX0_copy 37 = .ok (.getfield 9, 3) := by decide +kernel
theorem dX0_copy_40 : decode cX0_copy 40 = .ok (.iload 4, 2) := by decide +kernel
theorem dX0_copy_42 : decode cX0_copy 42 = .ok (.iaload, 1) := by decide +kernel
theorem dX0_copy_43 : decode cX0_copy 43 = .ok (.iastore, 1) := by decide +kernel
theorem dX0_copy_44 : decode cX0_copy 44 = .ok (.iinc 3 1, 3) := by decide +kernel
theorem dX0_copy_47 : decode cX0_copy 47 = .ok (.goto (-29), 3) := by decide +kernel
theorem dX0_copy_50 : decode cX0_copy 50 = .ok (.aload_n 0, 1) := by decide +kernel
theorem dX0_copy_51 : decode cX0_copy 51 = .ok (.getfield 19, 3) := by decide +kernel
theorem dX0_copy_54 : decode cX0_copy 54 = .ok (.iload_n 1, 1) := by decide +kernel
theorem dX0_copy_55 : decode cX0_copy 55 = .ok (.iload_n 2, 1) := by decide +kernel
theorem dX0_copy_56 : decode cX0_copy 56 = .ok (.iastore, 1) := by decide +kernel
theorem dX0_copy_57 : decode cX0_copy 57 = .ok (.iload_n 2, 1) := by decide +kernel
theorem dX0_copy_58 : decode cX0_copy 58 = .ok (.ireturn, 1) := by decide +kernel
set_option maxRecDepth 20000 in
theorem ggX0_size_X0_requireSort : GoodIn wsX0_size wsX0_requireSort := goodIn_ca (goodIn_r _ [6, 7, 8] (by decide +kernel) (by decide +kernel)) (goodIn_sub (fun _ h => List.mem_cons_of_mem _ (List.mem_append_right _ h)) (by decide +kernel))
set_option maxRecDepth 20000 in
theorem gX0_size_X0_requireSort : GoodIn wsX0_size (va_wsS RX0 51 yX0_requireSort wsX0_requireSort) := goodIn_app (goodIn_of _ (by decide +kernel)) ggX0_size_X0_requireSort
theorem dX0_size_0 : decode cX0_size 0 = .ok (.iload_n 1, 1) := by decide +kernel
theorem dX0_size_1 : decode cX0_size 1 = .ok (.invokestatic 51, 3) := by decide +kernel
theorem dX0_size_4 : decode cX0_size 4 = .ok (.iload_n 2, 1) := by decide +kernel
theorem dX0_size_5 : decode cX0_size 5 = .ok (.ifCond .eq 12, 3) := by decide +kernel
theorem dX0_size_8 : decode cX0_size 8 = .ok (.aload_n 0, 1) := by decide +kernel
theorem dX0_size_9 : decode cX0_size 9 = .ok (.getfield 19, 3) := by decide +kernel
theorem dX0_size_12 : decode cX0_size 12 = .ok (.iload_n 1, 1) := by decide +kernel
theorem dX0_size_13 : decode cX0_size 13 = .ok (.iaload, 1) := by decide +kernel
theorem dX0_size_14 : decode cX0_size 14 = .ok (.goto 9, 3) := by decide +kernel
theorem dX0_size_17 : decode cX0_size 17 = .ok (.aload_n 0, 1) := by decide +kernel
theorem dX0_size_18 : decode cX0_size 18 = .ok (.getfield 13, 3) := by decide +kernel
theorem dX0_size_21 : decode cX0_size 21 = .ok (.iload_n 1, 1) := by decide +kernel
theorem dX0_size_22 : decode cX0_size 22 = .ok (.iaload, 1) := by decide +kernel
theorem dX0_size_23 : decode cX0_size 23 = .ok (.ireturn, 1) := by decide +kernel
set_option maxRecDepth 20000 in
theorem ggX0_get_X0_requireSort : GoodIn wsX0_get wsX0_requireSort := goodIn_ca (goodIn_r _ [5, 6, 7] (by decide +kernel) (by decide +kernel)) (goodIn_sub (fun _ h => List.mem_cons_of_mem _ (List.mem_append_left _ (List.mem_append_left _ (List.mem_append_right _ h)))) (by decide +kernel))
set_option maxRecDepth 20000 in
theorem gX0_get_X0_requireSort : GoodIn wsX0_get (va_wsS RX0 51 yX0_requireSort wsX0_requireSort) := goodIn_app (goodIn_of _ (by decide +kernel)) ggX0_get_X0_requireSort
set_option maxRecDepth 20000 in
theorem ggX0_get_X0_requireMounted : GoodIn wsX0_get wsX0_requireMounted := goodIn_ca (goodIn_r _ [11, 12, 13, 14, 24, 25, 26, 27, 28, 29, 30, 31, 32, 33, 34] (by decide +kernel) (by decide +kernel)) (goodIn_sub (fun _ h => List.mem_cons_of_mem _ (List.mem_append_left _ (List.mem_append_right _ h))) (by decide +kernel))
set_option maxRecDepth 20000 in
theorem gX0_get_X0_requireMounted : GoodIn wsX0_get (wsV RX0 66 RX0 yX0_requireMounted wsX0_requireMounted) := goodIn_app (goodIn_of _ (by decide +kernel)) ggX0_get_X0_requireMounted
set_option maxRecDepth 20000 in
theorem ggX0_get_X0_requireCell : GoodIn wsX0_get wsX0_requireCell := goodIn_ca (goodIn_r _ [18, 19, 20, 14, 24, 25, 26, 27, 28, 29, 30, 31, 32, 33, 34] (by decide +kernel) (by decide +kernel)) (goodIn_sub (fun _ h => List.mem_cons_of_mem _ (List.mem_append_right _ h)) (by decide +kernel))
set_option maxRecDepth 20000 in
theorem gX0_get_X0_requireCell : GoodIn wsX0_get (wsV RX0 69 RX0 yX0_requireCell wsX0_requireCell) := goodIn_app (goodIn_of _ (by decide +kernel)) ggX0_get_X0_requireCell
set_option maxRecDepth 20000 in
theorem ggX0_get_X0_reelIndex : GoodIn wsX0_get wsX0_reelIndex := goodIn_r _ [23] (by decide +kernel) (by decide +kernel)
set_option maxRecDepth 20000 in
theorem gX0_get_X0_reelIndex : GoodIn wsX0_get (va_wsS RX0 62 yX0_reelIndex wsX0_reelIndex) := goodIn_app (goodIn_of _ (by decide +kernel)) ggX0_get_X0_reelIndex
theorem dX0_get_0 : decode cX0_get 0 = .ok (.iload_n 1, 1) := by decide +kernel
theorem dX0_get_1 : decode cX0_get 1 = .ok (.invokestatic 51, 3) := by decide +kernel
theorem dX0_get_4 : decode cX0_get 4 = .ok (.aload_n 0, 1) := by decide +kernel
theorem dX0_get_5 : decode cX0_get 5 = .ok (.iload_n 1, 1) := by decide +kernel
theorem dX0_get_6 : decode cX0_get 6 = .ok (.invokevirtual 66, 3) := by decide +kernel
theorem dX0_get_9 : decode cX0_get 9 = .ok (.aload_n 0, 1) := by decide +kernel
theorem dX0_get_10 : decode cX0_get 10 = .ok (.iload_n 1, 1) := by decide +kernel
theorem dX0_get_11 : decode cX0_get 11 = .ok (.iload_n 2, 1) := by decide +kernel
theorem dX0_get_12 : decode cX0_get 12 = .ok (.invokevirtual 69, 3) := by decide +kernel
theorem dX0_get_15 : decode cX0_get 15 = .ok (.aload_n 0, 1) := by decide +kernel
theorem dX0_get_16 : decode cX0_get 16 = .ok (.getfield 9, 3) := by decide +kernel
theorem dX0_get_19 : decode cX0_get 19 = .ok (.iload_n 1, 1) := by decide +kernel
theorem dX0_get_20 : decode cX0_get 20 = .ok (.iload_n 2, 1) := by decide +kernel
theorem dX0_get_21 : decode cX0_get 21 = .ok (.invokestatic 62, 3) := by decide +kernel
theorem dX0_get_24 : decode cX0_get 24 = .ok (.iaload, 1) := by decide +kernel
theorem dX0_get_25 : decode cX0_get 25 = .ok (.ireturn, 1) := by decide +kernel
set_option maxRecDepth 20000 in
theorem ggX0_set_X0_requireSort : GoodIn wsX0_set wsX0_requireSort := goodIn_ca (goodIn_r _ [4, 5, 6] (by decide +kernel) (by decide +kernel)) (goodIn_sub (fun _ h => List.mem_cons_of_mem _ (List.mem_append_left _ (List.mem_append_left _ (List.mem_append_right _ h)))) (by decide +kernel))
set_option maxRecDepth 20000 in
theorem gX0_set_X0_requireSort : GoodIn wsX0_set (va_wsS RX0 51 yX0_requireSort wsX0_requireSort) := goodIn_app (goodIn_of _ (by decide +kernel)) ggX0_set_X0_requireSort
set_option maxRecDepth 20000 in
theorem ggX0_set_X0_requireMounted : GoodIn wsX0_set wsX0_requireMounted := goodIn_ca (goodIn_r _ [10, 11, 12, 13, 41, 42, 43, 44, 45, 46, 47, 48, 49, 50, 51] (by decide +kernel) (by decide +kernel)) (goodIn_sub (fun _ h => List.mem_cons_of_mem _ (List.mem_append_left _ (List.mem_append_right _ h))) (by decide +kernel))
set_option maxRecDepth 20000 in
theorem gX0_set_X0_requireMounted : GoodIn wsX0_set (wsV RX0 66 RX0 yX0_requireMounted wsX0_requireMounted) := goodIn_app (goodIn_of _ (by decide +kernel)) ggX0_set_X0_requireMounted
set_option maxRecDepth 20000 in
theorem ggX0_set_X0_requireCell : GoodIn wsX0_set wsX0_requireCell := goodIn_ca (goodIn_r _ [17, 18, 19, 13, 41, 42, 43, 44, 45, 46, 47, 48, 49, 50, 51] (by decide +kernel) (by decide +kernel)) (goodIn_sub (fun _ h => List.mem_cons_of_mem _ (List.mem_append_right _ h)) (by decide +kernel))
set_option maxRecDepth 20000 in
theorem gX0_set_X0_requireCell : GoodIn wsX0_set (wsV RX0 69 RX0 yX0_requireCell wsX0_requireCell) := goodIn_app (goodIn_of _ (by decide +kernel)) ggX0_set_X0_requireCell
set_option maxRecDepth 20000 in
theorem ggX0_set_X0_put : GoodIn wsX0_set wsX0_put := goodIn_r _ [23, 24, 25, 26, 3, 27, 28, 29, 30, 31, 32, 33, 34, 35, 36, 37, 38, 39, 40, 41, 42, 43, 44, 45, 46, 47, 48, 49, 50, 51] (by decide +kernel) (by decide +kernel)
set_option maxRecDepth 20000 in
theorem gX0_set_X0_put : GoodIn wsX0_set (wsV RX0 73 RX0 yX0_put wsX0_put) := goodIn_app (goodIn_of _ (by decide +kernel)) ggX0_set_X0_put
theorem dX0_set_0 : decode cX0_set 0 = .ok (.iload_n 1, 1) := by decide +kernel
theorem dX0_set_1 : decode cX0_set 1 = .ok (.invokestatic 51, 3) := by decide +kernel
theorem dX0_set_4 : decode cX0_set 4 = .ok (.aload_n 0, 1) := by decide +kernel
theorem dX0_set_5 : decode cX0_set 5 = .ok (.iload_n 1, 1) := by decide +kernel
theorem dX0_set_6 : decode cX0_set 6 = .ok (.invokevirtual 66, 3) := by decide +kernel
theorem dX0_set_9 : decode cX0_set 9 = .ok (.aload_n 0, 1) := by decide +kernel
theorem dX0_set_10 : decode cX0_set 10 = .ok (.iload_n 1, 1) := by decide +kernel
theorem dX0_set_11 : decode cX0_set 11 = .ok (.iload_n 2, 1) := by decide +kernel
theorem dX0_set_12 : decode cX0_set 12 = .ok (.invokevirtual 69, 3) := by decide +kernel
theorem dX0_set_15 : decode cX0_set 15 = .ok (.aload_n 0, 1) := by decide +kernel
theorem dX0_set_16 : decode cX0_set 16 = .ok (.iload_n 1, 1) := by decide +kernel
theorem dX0_set_17 : decode cX0_set 17 = .ok (.iload_n 2, 1) := by decide +kernel
theorem dX0_set_18 : decode cX0_set 18 = .ok (.iload_n 3, 1) := by decide +kernel
theorem dX0_set_19 : decode cX0_set 19 = .ok (.invokevirtual 73, 3) := by decide +kernel
theorem dX0_set_22 : decode cX0_set 22 = .ok (.ireturn, 1) := by decide +kernel
set_option maxRecDepth 20000 in
theorem ggX0_alter_X0_requireSort : GoodIn wsX0_alter wsX0_requireSort := goodIn_ca (goodIn_r _ [5, 6, 7] (by decide +kernel) (by decide +kernel)) (goodIn_sub (fun _ h => List.mem_cons_of_mem _ (List.mem_append_left _ (List.mem_append_left _ (List.mem_append_right _ h)))) (by decide +kernel))
set_option maxRecDepth 20000 in
theorem gX0_alter_X0_requireSort : GoodIn wsX0_alter (va_wsS RX0 51 yX0_requireSort wsX0_requireSort) := goodIn_app (goodIn_of _ (by decide +kernel)) ggX0_alter_X0_requireSort
set_option maxRecDepth 20000 in
theorem ggX0_alter_X0_requireAlterable : GoodIn wsX0_alter wsX0_requireAlterable := goodIn_ca (goodIn_r _ [10, 6, 7, 11, 12, 13, 14, 4, 15] (by decide +kernel) (by decide +kernel)) (goodIn_sub (fun _ h => List.mem_cons_of_mem _ (List.mem_append_left _ (List.mem_append_left _ (List.mem_append_right _ h)))) (by decide +kernel))
set_option maxRecDepth 20000 in
theorem gX0_alter_X0_requireAlterable : GoodIn wsX0_alter (va_wsS RX0 77 yX0_requireAlterable wsX0_requireAlterable) := goodIn_app (goodIn_of _ (by decide +kernel)) ggX0_alter_X0_requireAlterable
set_option maxRecDepth 20000 in
theorem ggX0_alter_X0_requireMounted : GoodIn wsX0_alter wsX0_requireMounted := goodIn_ca (goodIn_r _ [19, 20, 21, 22, 50, 51, 52, 53, 54, 55, 56, 57, 58, 59, 60] (by decide +kernel) (by decide +kernel)) (goodIn_sub (fun _ h => List.mem_cons_of_mem _ (List.mem_append_left _ (List.mem_append_right _ h))) (by decide +kernel))
set_option maxRecDepth 20000 in
theorem gX0_alter_X0_requireMounted : GoodIn wsX0_alter (wsV RX0 66 RX0 yX0_requireMounted wsX0_requireMounted) := goodIn_app (goodIn_of _ (by decide +kernel)) ggX0_alter_X0_requireMounted
set_option maxRecDepth 20000 in
theorem ggX0_alter_X0_requireCell : GoodIn wsX0_alter wsX0_requireCell := goodIn_ca (goodIn_r _ [26, 27, 28, 22, 50, 51, 52, 53, 54, 55, 56, 57, 58, 59, 60] (by decide +kernel) (by decide +kernel)) (goodIn_sub (fun _ h => List.mem_cons_of_mem _ (List.mem_append_right _ h)) (by decide +kernel))
set_option maxRecDepth 20000 in
theorem gX0_alter_X0_requireCell : GoodIn wsX0_alter (wsV RX0 69 RX0 yX0_requireCell wsX0_requireCell) := goodIn_app (goodIn_of _ (by decide +kernel)) ggX0_alter_X0_requireCell
set_option maxRecDepth 20000 in
theorem ggX0_alter_X0_fitted : GoodIn wsX0_alter wsX0_fitted := goodIn_r _ [31, 32, 11, 12, 33, 34, 35, 36, 37, 38, 39] (by decide +kernel) (by decide +kernel)
set_option maxRecDepth 20000 in
theorem gX0_alter_X0_fitted : GoodIn wsX0_alter (va_wsS RX0 81 yX0_fitted wsX0_fitted) := goodIn_app (goodIn_of _ (by decide +kernel)) ggX0_alter_X0_fitted
set_option maxRecDepth 20000 in
theorem ggX0_alter_X0_reelIndex : GoodIn wsX0_alter wsX0_reelIndex := goodIn_r _ [42] (by decide +kernel) (by decide +kernel)
set_option maxRecDepth 20000 in
theorem gX0_alter_X0_reelIndex : GoodIn wsX0_alter (va_wsS RX0 62 yX0_reelIndex wsX0_reelIndex) := goodIn_app (goodIn_of _ (by decide +kernel)) ggX0_alter_X0_reelIndex
set_option maxRecDepth 20000 in
theorem ggX0_alter_X0_combined : GoodIn wsX0_alter wsX0_combined := goodIn_r _ [45] (by decide +kernel) (by decide +kernel)
set_option maxRecDepth 20000 in
theorem gX0_alter_X0_combined : GoodIn wsX0_alter (va_wsS RX0 84 yX0_combined wsX0_combined) := goodIn_app (goodIn_of _ (by decide +kernel)) ggX0_alter_X0_combined
set_option maxRecDepth 20000 in
theorem ggX0_alter_X0_put : GoodIn wsX0_alter wsX0_put := goodIn_r _ [49, 1, 29, 30, 4, 31, 32, 11, 12, 33, 34, 35, 36, 37, 38, 39, 40, 41, 42, 50, 51, 52, 53, 54, 55, 56, 57, 58, 59, 60] (by decide +kernel) (by decide +kernel)
set_option maxRecDepth 20000 in
theorem gX0_alter_X0_put : GoodIn wsX0_alter (wsV RX0 73 RX0 yX0_put wsX0_put) := goodIn_app (goodIn_of _ (by decide +kernel)) ggX0_alter_X0_put
theorem dX0_alter_0 : decode cX0_alter 0 = .ok (.iload_n 1, 1) := by decide +kernel
theorem dX0_alter_1 : decode cX0_alter 1 = .ok (.invokestatic 51, 3) := by decide +kernel
theorem dX0_alter_4 : decode cX0_alter 4 = .ok (.iload_n 1, 1) := by decide +kernel
theorem dX0_alter_5 : decode cX0_alter 5 = .ok (.iload_n 3, 1) := by decide +kernel
theorem dX0_alter_6 : decode cX0_alter 6 = .ok (.iload 4, 2) := by decide +kernel
theorem dX0_alter_8 : decode cX0_alter 8 = .ok (.invokestatic 77, 3) := by decide +kernel
theorem dX0_alter_11 : decode cX0_alter 11 = .ok (.aload_n 0, 1) := by decide +kernel
theorem dX0_alter_12 : decode cX0_alter 12 = .ok (.iload_n 1, 1) := by decide +kernel
theorem dX0_alter_13 : decode cX0_alter 13 = .ok (.invokevirtual 66, 3) := by decide +kernel
theorem dX0_alter_16 : decode cX0_alter 16 = .ok (.aload_n 0, 1) := by decide +kernel
theorem dX0_alter_17 : decode cX0_alter 17 = .ok (.iload_n 1, 1) := by decide +kernel
theorem dX0_alter_18 : decode cX0_alter 18 = .ok (.iload_n 2, 1) := by decide +kernel
theorem dX0_alter_19 : decode cX0_alter 19 = .ok (.invokevirtual 69, 3) := by decide +kernel
theorem dX0_alter_22 : decode cX0_alter 22 = .ok (.iload_n 1, 1) := by decide +kernel
theorem dX0_alter_23 : decode cX0_alter 23 = .ok (.iconst 3, 1) := by decide +kernel
theorem dX0_alter_24 : decode cX0_alter 24 = .ok (.if_icmp .ne 12, 3) := by decide +kernel
theorem dX0_alter_27 : decode cX0_alter 27 = .ok (.iconst 3, 1) := by decide +kernel
theorem dX0_alter_28 : decode cX0_alter 28 = .ok (.iload 4, 2) := by decide +kernel
theorem dX0_alter_30 : decode cX0_alter 30 = .ok (.invokestatic 81, 3) := by decide +kernel
theorem dX0_alter_33 : decode cX0_alter 33 = .ok (.goto 5, 3) := by decide +kernel
theorem dX0_alter_36 : decode cX0_alter 36 = .ok (.iload 4, 2) := by decide +kernel
theorem dX0_alter_38 : decode cX0_alter 38 = .ok (.istore 5, 2) := by decide +kernel
theorem dX0_alter_40 : decode cX0_alter 40 = .ok (.aload_n 0, 1) := by decide +kernel
theorem dX0_alter_41 : decode cX0_alter 41 = .ok (.iload_n 1, 1) := by decide +kernel
theorem dX0_alter_42 : decode cX0_alter 42 = .ok (.iload_n 2, 1) := by decide +kernel
theorem dX0_alter_43 : decode cX0_alter 43 = .ok (.aload_n 0, 1) := by decide +kernel
theorem dX0_alter_44 : decode cX0_alter 44 = .ok (.getfield 9, 3) := by decide +kernel
theorem dX0_alter_47 : decode cX0_alter 47 = .ok (.iload_n 1, 1) := by decide +kernel
theorem dX0_alter_48 : decode cX0_alter 48 = .ok (.iload_n 2, 1) := by decide +kernel
theorem dX0_alter_49 : decode cX0_alter 49 = .ok (.invokestatic 62, 3) := by decide +kernel
theorem dX0_alter_52 : decode cX0_alter 52 = .ok (.iaload, 1) := by decide +kernel
theorem dX0_alter_53 : decode cX0_alter 53 = .ok (.iload_n 3, 1) := by decide +kernel
theorem dX0_alter_54 : decode cX0_alter 54 = .ok (.iload 5, 2) := by decide +kernel
theorem dX0_alter_56 : decode cX0_alter 56 = .ok (.invokestatic 84, 3) := by decide +kernel
theorem dX0_alter_59 : decode cX0_alter 59 = .ok (.invokevirtual 73, 3) := by decide +kernel
theorem dX0_alter_62 : decode cX0_alter 62 = .ok (.ireturn, 1) := by decide +kernel
set_option maxRecDepth 20000 in
theorem ggX0_weave_J7_fill_53178 : GoodIn wsX0_weave wsJ7_fill_53178 := goodIn_r _ [12] (by decide +kernel) (by decide +kernel)
set_option maxRecDepth 20000 in
theorem gX0_weave_J7_fill_53178 : GoodIn wsX0_weave (va_wsS RX0 22 yJ7_fill_53178 wsJ7_fill_53178) := goodIn_app (goodIn_of _ (by decide +kernel)) ggX0_weave_J7_fill_53178
theorem dX0_weave_0 : decode cX0_weave 0 = .ok (.iload_n 1, 1) := by decide +kernel
theorem dX0_weave_1 : decode cX0_weave 1 = .ok (.bipush 40, 2) := by decide +kernel
theorem dX0_weave_3 : decode cX0_weave 3 = .ok (.if_icmp .gt 9, 3) := by decide +kernel
theorem dX0_weave_6 : decode cX0_weave 6 = .ok (.iload_n 2, 1) := by decide +kernel
theorem dX0_weave_7 : decode cX0_weave 7 = .ok (.bipush 40, 2) := by decide +kernel
theorem dX0_weave_9 : decode cX0_weave 9 = .ok (.if_icmp .le 13, 3) := by decide +kernel
theorem dX0_weave_12 : decode cX0_weave 12 = .ok (.new 87, 3) := by decide +kernel
theorem dX0_weave_15 : decode cX0_weave 15 = .ok (.dup, 1) := by decide +kernel
theorem dX0_weave_16 : decode cX0_weave 16 = .ok (.ldc 89, 2) := by decide +kernel
theorem dX0_weave_18 : decode cX0_weave 18 = .ok (.invokespecial 91, 3) := by decide +kernel
theorem dX0_weave_21 : decode cX0_weave 21 = .ok (.athrow, 1) := by decide +kernel
theorem dX0_weave_22 : decode cX0_weave 22 = .ok (.iload_n 1, 1) := by decide +kernel
theorem dX0_weave_23 : decode cX0_weave 23 = .ok (.ifCond .lt 7, 3) := by decide +kernel
theorem dX0_weave_26 : decode cX0_weave 26 = .ok (.iload_n 2, 1) := by decide +kernel
theorem dX0_weave_27 : decode cX0_weave 27 = .ok (.ifCond .ge 13, 3) := by decide +kernel
theorem dX0_weave_30 : decode cX0_weave 30 = .ok (.new 55, 3) := by decide +kernel
theorem dX0_weave_33 : decode cX0_weave 33 = .ok (.dup, 1) := by decide +kernel
theorem dX0_weave_34 : decode cX0_weave 34 = .ok (.ldc 92, 2) := by decide +kernel
theorem dX0_weave_36 : decode cX0_weave 36 = .ok (.invokespecial 59, 3) := by decide +kernel
theorem dX0_weave_39 : decode cX0_weave 39 = .ok (.athrow, 1) := by decide +kernel
theorem dX0_weave_40 : decode cX0_weave 40 = .ok (.aload_n 0, 1) := by decide +kernel
theorem dX0_weave_41 : decode cX0_weave 41 = .ok (.iload_n 1, 1) := by decide +kernel
theorem dX0_weave_42 : decode cX0_weave 42 = .ok (.putfield 35, 3) := by decide +kernel
theorem dX0_weave_45 : decode cX0_weave 45 = .ok (.aload_n 0, 1) := by decide +kernel
theorem dX0_weave_46 : decode cX0_weave 46 = .ok (.iload_n 2, 1) := by decide +kernel
theorem dX0_weave_47 : decode cX0_weave 47 = .ok (.putfield 39, 3) := by decide +kernel
theorem dX0_weave_50 : decode cX0_weave 50 = .ok (.aload_n 0, 1) := by decide +kernel
theorem dX0_weave_51 : decode cX0_weave 51 = .ok (.getfield 28, 3) := by decide +kernel
theorem dX0_weave_54 : decode cX0_weave 54 = .ok (.iconst 0, 1) := by decide +kernel
theorem dX0_weave_55 : decode cX0_weave 55 = .ok (.invokestatic 22, 3) := by decide +kernel
theorem dX0_weave_58 : decode cX0_weave 58 = .ok (.iconst 0, 1) := by decide +kernel
theorem dX0_weave_59 : decode cX0_weave 59 = .ok (.istore_n 3, 1) := by decide +kernel
theorem dX0_weave_60 : decode cX0_weave 60 = .ok (.iload_n 3, 1) := by decide +kernel
theorem dX0_weave_61 : decode cX0_weave 61 = .ok (.iload_n 1, 1) := by decide +kernel
theorem dX0_weave_62 : decode cX0_weave 62 = .ok (.if_icmp .ge 16, 3) := by decide +kernel
theorem dX0_weave_65 : decode cX0_weave 65 = .ok (.aload_n 0, 1) := by decide +kernel
theorem dX0_weave_66 : decode cX0_weave 66 = .ok (.getfield 31, 3) := by decide +kernel
theorem dX0_weave_69 : decode cX0_weave 69 = .ok (.iload_n 3, 1) := by decide +kernel
theorem dX0_weave_70 : decode cX0_weave 70 = .ok (.iconst 0, 1) := by decide +kernel
theorem dX0_weave_71 : decode cX0_weave 71 = .ok (.bastore, 1) := by decide +kernel
theorem dX0_weave_72 : decode cX0_weave 72 = .ok (.iinc 3 1, 3) := by decide +kernel
theorem dX0_weave_75 : decode cX0_weave 75 = .ok (.goto (-15), 3) := by decide +kernel
theorem dX0_weave_78 : decode cX0_weave 78 = .ok (.iload_n 1, 1) := by decide +kernel
theorem dX0_weave_79 : decode cX0_weave 79 = .ok (.iload_n 2, 1) := by decide +kernel
theorem dX0_weave_80 : decode cX0_weave 80 = .ok (.imul, 1) := by decide +kernel
theorem dX0_weave_81 : decode cX0_weave 81 = .ok (.ireturn, 1) := by decide +kernel
set_option maxRecDepth 20000 in
theorem ggX0_pass_X0_requireCloth : GoodIn wsX0_pass wsX0_requireCloth := goodIn_ca (goodIn_r _ [12, 13, 14, 15, 64, 65, 66, 67, 68, 69, 70, 71, 72, 73, 74] (by decide +kernel) (by decide +kernel)) (goodIn_sub (fun _ h => List.mem_cons_of_mem _ (List.mem_append_left _ (List.mem_append_right _ h))) (by decide +kernel))
set_option maxRecDepth 20000 in
theorem gX0_pass_X0_requireCloth : GoodIn wsX0_pass (wsV RX0 97 RX0 yX0_requireCloth wsX0_requireCloth) := goodIn_app (goodIn_of _ (by decide +kernel)) ggX0_pass_X0_requireCloth
set_option maxRecDepth 20000 in
theorem ggX0_pass_X0_requireRow : GoodIn wsX0_pass wsX0_requireRow := goodIn_ca (goodIn_r _ [19, 20, 21, 15, 64, 65, 66, 67, 68, 69, 70, 71, 72, 73, 74] (by decide +kernel) (by decide +kernel)) (goodIn_sub (fun _ h => List.mem_cons_of_mem _ (List.mem_append_right _ h)) (by decide +kernel))
set_option maxRecDepth 20000 in
theorem gX0_pass_X0_requireRow : GoodIn wsX0_pass (wsV RX0 100 RX0 yX0_requireRow wsX0_requireRow) := goodIn_app (goodIn_of _ (by decide +kernel)) ggX0_pass_X0_requireRow
set_option maxRecDepth 20000 in
theorem ggX0_pass_X0_passesColumn : GoodIn wsX0_pass wsX0_passesColumn := goodIn_r _ [25, 26, 27, 28, 29, 30, 11, 31, 32, 4, 5, 33, 34, 35, 36, 37, 38, 39, 40, 41, 42, 43, 44, 45, 46, 47, 48, 49, 50, 51, 52, 53, 54, 3, 55, 56, 57, 58, 59, 60, 61, 62, 63, 64, 65, 66, 67, 68, 69, 70, 71, 72, 73, 74] (by decide +kernel) (by decide +kernel)
set_option maxRecDepth 20000 in
theorem gX0_pass_X0_passesColumn : GoodIn wsX0_pass (wsV RX0 103 RX0 yX0_passesColumn wsX0_passesColumn) := goodIn_app (goodIn_of _ (by decide +kernel)) ggX0_pass_X0_passesColumn
theorem dX0_pass_0 : decode cX0_pass 0 = .ok (.iload_n 2, 1) := by decide +kernel
theorem dX0_pass_1 : decode cX0_pass 1 = .ok (.ifCond .lt 9, 3) := by decide +kernel
theorem dX0_pass_4 : decode cX0_pass 4 = .ok (.iload_n 2, 1) := by decide +kernel
theorem dX0_pass_5 : decode cX0_pass 5 = .ok (.ldc 94, 2) := by decide +kernel
theorem dX0_pass_7 : decode cX0_pass 7 = .ok (.if_icmp .le 13, 3) := by decide +kernel
theorem dX0_pass_10 : decode cX0_pass 10 = .ok (.new 55, 3) := by decide +kernel
theorem dX0_pass_13 : decode cX0_pass 13 = .ok (.dup, 1) := by decide +kernel
theorem dX0_pass_14 : decode cX0_pass 14 = .ok (.ldc 95, 2) := by decide +kernel
theorem dX0_pass_16 : decode cX0_pass 16 = .ok (.invokespecial 59, 3) := by decide +kernel
theorem dX0_pass_19 : decode cX0_pass 19 = .ok (.athrow, 1) := by decide +kernel
theorem dX0_pass_20 : decode cX0_pass 20 = .ok (.aload_n 0, 1) := by decide +kernel
theorem dX0_pass_21 : decode cX0_pass 21 = .ok (.invokevirtual 97, 3) := by decide +kernel
theorem dX0_pass_24 : decode cX0_pass 24 = .ok (.aload_n 0, 1) := by decide +kernel
theorem dX0_pass_25 : decode cX0_pass 25 = .ok (.iload_n 1, 1) := by decide +kernel
theorem dX0_pass_26 : decode cX0_pass 26 = .ok (.invokevirtual 100, 3) := by decide +kernel
theorem dX0_pass_29 : decode cX0_pass 29 = .ok (.aload_n 0, 1) := by decide +kernel
theorem dX0_pass_30 : decode cX0_pass 30 = .ok (.iconst 0, 1) := by decide +kernel
theorem dX0_pass_31 : decode cX0_pass 31 = .ok (.putfield 42, 3) := by decide +kernel
theorem dX0_pass_34 : decode cX0_pass 34 = .ok (.aload_n 0, 1) := by decide +kernel
theorem dX0_pass_35 : decode cX0_pass 35 = .ok (.iconst 0, 1) := by decide +kernel
theorem dX0_pass_36 : decode cX0_pass 36 = .ok (.putfield 45, 3) := by decide +kernel
theorem dX0_pass_39 : decode cX0_pass 39 = .ok (.iconst 0, 1) := by decide +kernel
theorem dX0_pass_40 : decode cX0_pass 40 = .ok (.istore_n 3, 1) := by decide +kernel
theorem dX0_pass_41 : decode cX0_pass 41 = .ok (.iload_n 3, 1) := by decide +kernel
theorem dX0_pass_42 : decode cX0_pass 42 = .ok (.aload_n 0, 1) := by decide +kernel
theorem dX0_pass_43 : decode cX0_pass 43 = .ok (.getfield 39, 3) := by decide +kernel
theorem dX0_pass_46 : decode cX0_pass 46 = .ok (.if_icmp .ge 19, 3) := by decide +kernel
theorem dX0_pass_49 : decode cX0_pass 49 = .ok (.aload_n 0, 1) := by decide +kernel
theorem dX0_pass_50 : decode cX0_pass 50 = .ok (.iload_n 1, 1) := by decide +kernel
theorem dX0_pass_51 : decode cX0_pass 51 = .ok (.iload_n 3, 1) := by decide +kernel
theorem dX0_pass_52 : decode cX0_pass 52 = .ok (.iload_n 2, 1) := by decide +kernel
theorem dX0_pass_53 : decode cX0_pass 53 = .ok (.invokevirtual 103, 3) := by decide +kernel
theorem dX0_pass_56 : decode cX0_pass 56 = .ok (.ifCond .eq 9, 3) := by decide +kernel
theorem dX0_pass_59 : decode cX0_pass 59 = .ok (.iinc 3 1, 3) := by decide +kernel
theorem dX0_pass_62 : decode cX0_pass 62 = .ok (.goto (-21), 3) := by decide +kernel
theorem dX0_pass_65 : decode cX0_pass 65 = .ok (.aload_n 0, 1) := by decide +kernel
theorem dX0_pass_66 : decode cX0_pass 66 = .ok (.iload_n 3, 1) := by decide +kernel
theorem dX0_pass_67 : decode cX0_pass 67 = .ok (.putfield 48, 3) := by decide +kernel
theorem dX0_pass_70 : decode cX0_pass 70 = .ok (.iload_n 3, 1) := by decide +kernel
theorem dX0_pass_71 : decode cX0_pass 71 = .ok (.ireturn, 1) := by decide +kernel
theorem dX0_stop_0 : decode cX0_stop 0 = .ok (.iload_n 1, 1) := by decide +kernel
theorem dX0_stop_1 : decode cX0_stop 1 = .ok (.tableswitch 42 0 2 #[27, 32, 37], 27) := by decide +kernel
theorem dX0_stop_28 : decode cX0_stop 28 = .ok (.aload_n 0, 1) := by decide +kernel
theorem dX0_stop_29 : decode cX0_stop 29 = .ok (.getfield 42, 3) := by decide +kernel
theorem dX0_stop_32 : decode cX0_stop 32 = .ok (.ireturn, 1) := by decide +kernel
theorem dX0_stop_33 : decode cX0_stop 33 = .ok (.aload_n 0, 1) := by decide +kernel
theorem dX0_stop_34 : decode cX0_stop 34 = .ok (.getfield 45, 3) := by decide +kernel
theorem dX0_stop_37 : decode cX0_stop 37 = .ok (.ireturn, 1) := by decide +kernel
theorem dX0_stop_38 : decode cX0_stop 38 = .ok (.aload_n 0, 1) := by decide +kernel
theorem dX0_stop_39 : decode cX0_stop 39 = .ok (.getfield 48, 3) := by decide +kernel
theorem dX0_stop_42 : decode cX0_stop 42 = .ok (.ireturn, 1) := by decide +kernel
theorem dX0_stop_43 : decode cX0_stop 43 = .ok (.new 55, 3) := by decide +kernel
theorem dX0_stop_46 : decode cX0_stop 46 = .ok (.dup, 1) := by decide +kernel
theorem dX0_stop_47 : decode cX0_stop 47 = .ok (.ldc 107, 2) := by decide +kernel
theorem dX0_stop_49 : decode cX0_stop 49 = .ok (.invokespecial 59, 3) := by decide +kernel
theorem dX0_stop_52 : decode cX0_stop 52 = .ok (.athrow, 1) := by decide +kernel
set_option maxRecDepth 20000 in
theorem ggX0_cut_X0_requireCloth : GoodIn wsX0_cut wsX0_requireCloth := goodIn_ca (goodIn_r _ [7, 8, 9, 10, 21, 22, 23, 24, 25, 26, 27, 28, 29, 30, 31] (by decide +kernel) (by decide +kernel)) (goodIn_sub (fun _ h => List.mem_cons_of_mem _ (List.mem_append_left _ (List.mem_append_right _ h))) (by decide +kernel))
set_option maxRecDepth 20000 in
theorem gX0_cut_X0_requireCloth : GoodIn wsX0_cut (wsV RX0 97 RX0 yX0_requireCloth wsX0_requireCloth) := goodIn_app (goodIn_of _ (by decide +kernel)) ggX0_cut_X0_requireCloth
set_option maxRecDepth 20000 in
theorem ggX0_cut_X0_requireRow : GoodIn wsX0_cut wsX0_requireRow := goodIn_ca (goodIn_r _ [14, 15, 16, 10, 21, 22, 23, 24, 25, 26, 27, 28, 29, 30, 31] (by decide +kernel) (by decide +kernel)) (goodIn_sub (fun _ h => List.mem_cons_of_mem _ (List.mem_append_right _ h)) (by decide +kernel))
set_option maxRecDepth 20000 in
theorem gX0_cut_X0_requireRow : GoodIn wsX0_cut (wsV RX0 100 RX0 yX0_requireRow wsX0_requireRow) := goodIn_app (goodIn_of _ (by decide +kernel)) ggX0_cut_X0_requireRow
set_option maxRecDepth 20000 in
theorem ggX0_cut_X0_requireUncut : GoodIn wsX0_cut wsX0_requireUncut := goodIn_ca (goodIn_r _ [20, 8, 9, 1, 21, 22, 23, 24, 25, 26, 27, 28, 29, 30, 31] (by decide +kernel) (by decide +kernel)) (goodIn_sub (fun _ h => List.mem_cons_of_mem _ (List.mem_append_left _ (List.mem_append_right _ h))) (by decide +kernel))
set_option maxRecDepth 20000 in
theorem gX0_cut_X0_requireUncut : GoodIn wsX0_cut (wsV RX0 109 RX0 yX0_requireUncut wsX0_requireUncut) := goodIn_app (goodIn_of _ (by decide +kernel)) ggX0_cut_X0_requireUncut
theorem dX0_cut_0 : decode cX0_cut 0 = .ok (.aload_n 0, 1) := by decide +kernel
theorem dX0_cut_1 : decode cX0_cut 1 = .ok (.invokevirtual 97, 3) := by decide +kernel
theorem dX0_cut_4 : decode cX0_cut 4 = .ok (.aload_n 0, 1) := by decide +kernel
theorem dX0_cut_5 : decode cX0_cut 5 = .ok (.iload_n 1, 1) := by decide +kernel
theorem dX0_cut_6 : decode cX0_cut 6 = .ok (.invokevirtual 100, 3) := by decide +kernel
theorem dX0_cut_9 : decode cX0_cut 9 = .ok (.aload_n 0, 1) := by decide +kernel
theorem dX0_cut_10 : decode cX0_cut 10 = .ok (.iload_n 1, 1) := by decide +kernel
theorem dX0_cut_11 : decode cX0_cut 11 = .ok (.invokevirtual 109, 3) := by decide +kernel
theorem dX0_cut_14 : decode cX0_cut 14 = .ok (.aload_n 0, 1) := by decide +kernel
theorem dX0_cut_15 : decode cX0_cut 15 = .ok (.getfield 31, 3) := by decide +kernel
theorem dX0_cut_18 : decode cX0_cut 18 = .ok (.iload_n 1, 1) := by decide +kernel
theorem dX0_cut_19 : decode cX0_cut 19 = .ok (.iconst 1, 1) := by decide +kernel
theorem dX0_cut_20 : decode cX0_cut 20 = .ok (.bastore, 1) := by decide +kernel
theorem dX0_cut_21 : decode cX0_cut 21 = .ok (.aload_n 0, 1) := by decide +kernel
theorem dX0_cut_22 : decode cX0_cut 22 = .ok (.getfield 39, 3) := by decide +kernel
theorem dX0_cut_25 : decode cX0_cut 25 = .ok (.ireturn, 1) := by decide +kernel
set_option maxRecDepth 20000 in
theorem ggX0_cell_X0_requireClothCell : GoodIn wsX0_cell wsX0_requireClothCell := goodIn_ca (goodIn_ca (goodIn_r _ [6, 7, 8, 9, 10, 11, 12, 5, 13, 14, 15, 16, 17, 18, 19, 20, 21, 22, 23, 24, 25, 29, 30, 31, 32, 33, 34, 35, 36, 37, 38, 39] (by decide +kernel) (by decide +kernel)) (goodIn_sub (fun _ h => List.mem_cons_of_mem _ (List.mem_append_left _ (List.mem_append_right _ h))) (by decide +kernel))) (goodIn_sub (fun _ h => List.mem_cons_of_mem _ (List.mem_append_right _ h)) (by decide +kernel))
set_option maxRecDepth 20000 in
theorem gX0_cell_X0_requireClothCell : GoodIn wsX0_cell (wsV RX0 112 RX0 yX0_requireClothCell wsX0_requireClothCell) := goodIn_app (goodIn_of _ (by decide +kernel)) ggX0_cell_X0_requireClothCell
set_option maxRecDepth 20000 in
theorem ggX0_cell_X0_clothIndex : GoodIn wsX0_cell wsX0_clothIndex := goodIn_r _ [28] (by decide +kernel) (by decide +kernel)
set_option maxRecDepth 20000 in
theorem gX0_cell_X0_clothIndex : GoodIn wsX0_cell (va_wsS RX0 115 yX0_clothIndex wsX0_clothIndex) := goodIn_app (goodIn_of _ (by decide +kernel)) ggX0_cell_X0_clothIndex
theorem dX0_cell_0 : decode cX0_cell 0 = .ok (.aload_n 0, 1) := by decide +kernel
theorem dX0_cell_1 : decode cX0_cell 1 = .ok (.iload_n 1, 1) := by decide +kernel
theorem dX0_cell_2 : decode cX0_cell 2 = .ok (.iload_n 2, 1) := by decide +kernel
theorem dX0_cell_3 : decode cX0_cell 3 = .ok (.invokevirtual 112, 3) := by decide +kernel
theorem dX0_cell_6 : decode cX0_cell 6 = .ok (.aload_n 0, 1) := by decide +kernel
theorem dX0_cell_7 : decode cX0_cell 7 = .ok (.getfield 28, 3) := by decide +kernel
theorem dX0_cell_10 : decode cX0_cell 10 = .ok (.iload_n 1, 1) := by decide +kernel
theorem dX0_cell_11 : decode cX0_cell 11 = .ok (.iload_n 2, 1) := by decide +kernel
theorem dX0_cell_12 : decode cX0_cell 12 = .ok (.invokestatic 115, 3) := by decide +kernel
theorem dX0_cell_15 : decode cX0_cell 15 = .ok (.iaload, 1) := by decide +kernel
theorem dX0_cell_16 : decode cX0_cell 16 = .ok (.ireturn, 1) := by decide +kernel
set_option maxRecDepth 20000 in
theorem ggX0_dye_X0_requireHow : GoodIn wsX0_dye wsX0_requireHow := goodIn_ca (goodIn_r _ [5, 6, 7] (by decide +kernel) (by decide +kernel)) (goodIn_sub (fun _ h => List.mem_cons_of_mem _ (List.mem_append_left _ (List.mem_append_left _ (List.mem_append_right _ h)))) (by decide +kernel))
set_option maxRecDepth 20000 in
theorem gX0_dye_X0_requireHow : GoodIn wsX0_dye (va_wsS RX0 118 yX0_requireHow wsX0_requireHow) := goodIn_app (goodIn_of _ (by decide +kernel)) ggX0_dye_X0_requireHow
set_option maxRecDepth 20000 in
theorem ggX0_dye_X0_requireClothCell : GoodIn wsX0_dye wsX0_requireClothCell := goodIn_ca (goodIn_ca (goodIn_r _ [11, 12, 13, 14, 15, 16, 17, 4, 18, 19, 20, 21, 22, 23, 24, 25, 26, 27, 28, 29, 30, 37, 38, 39, 40, 41, 42, 43, 44, 45, 46, 47] (by decide +kernel) (by decide +kernel)) (goodIn_sub (fun _ h => List.mem_cons_of_mem _ (List.mem_append_left _ (List.mem_append_right _ h))) (by decide +kernel))) (goodIn_sub (fun _ h => List.mem_cons_of_mem _ (List.mem_append_right _ h)) (by decide +kernel))
set_option maxRecDepth 20000 in
theorem gX0_dye_X0_requireClothCell : GoodIn wsX0_dye (wsV RX0 112 RX0 yX0_requireClothCell wsX0_requireClothCell) := goodIn_app (goodIn_of _ (by decide +kernel)) ggX0_dye_X0_requireClothCell
set_option maxRecDepth 20000 in
theorem ggX0_dye_X0_clothIndex : GoodIn wsX0_dye wsX0_clothIndex := goodIn_r _ [33] (by decide +kernel) (by decide +kernel)
set_option maxRecDepth 20000 in
theorem gX0_dye_X0_clothIndex : GoodIn wsX0_dye (va_wsS RX0 115 yX0_clothIndex wsX0_clothIndex) := goodIn_app (goodIn_of _ (by decide +kernel)) ggX0_dye_X0_clothIndex
set_option maxRecDepth 20000 in
theorem ggX0_dye_X0_combined : GoodIn wsX0_dye wsX0_combined := goodIn_r _ [36] (by decide +kernel) (by decide +kernel)
set_option maxRecDepth 20000 in
theorem gX0_dye_X0_combined : GoodIn wsX0_dye (va_wsS RX0 84 yX0_combined wsX0_combined) := goodIn_app (goodIn_of _ (by decide +kernel)) ggX0_dye_X0_combined
theorem dX0_dye_0 : decode cX0_dye 0 = .ok (.iload_n 3, 1) := by decide +kernel
theorem dX0_dye_1 : decode cX0_dye 1 = .ok (.invokestatic 118, 3) := by decide +kernel
theorem dX0_dye_4 : decode cX0_dye 4 = .ok (.aload_n 0, 1) := by decide +kernel
theorem dX0_dye_5 : decode cX0_dye 5 = .ok (.iload_n 1, 1) := by decide +kernel
theorem dX0_dye_6 : decode cX0_dye 6 = .ok (.iload_n 2, 1) := by decide +kernel
theorem dX0_dye_7 : decode cX0_dye 7 = .ok (.invokevirtual 112, 3) := by decide +kernel
theorem dX0_dye_10 : decode cX0_dye 10 = .ok (.iload_n 1, 1) := by decide +kernel
theorem dX0_dye_11 : decode cX0_dye 11 = .ok (.iload_n 2, 1) := by decide +kernel
theorem dX0_dye_12 : decode cX0_dye 12 = .ok (.invokestatic 115, 3) := by decide +kernel
theorem dX0_dye_15 : decode cX0_dye 15 = .ok (.istore 5, 2) := by decide +kernel
theorem dX0_dye_17 : decode cX0_dye 17 = .ok (.aload_n 0, 1) := by decide +kernel
theorem dX0_dye_18 : decode cX0_dye 18 = .ok (.getfield 28, 3) := by decide +kernel
theorem dX0_dye_21 : decode cX0_dye 21 = .ok (.iload 5, 2) := by decide +kernel
theorem dX0_dye_23 : decode cX0_dye 23 = .ok (.aload_n 0, 1) := by decide +kernel
theorem dX0_dye_24 : decode cX0_dye 24 = .ok (.getfield 28, 3) := by decide +kernel
theorem dX0_dye_27 : decode cX0_dye 27 = .ok (.iload 5, 2) := by decide +kernel
theorem dX0_dye_29 : decode cX0_dye 29 = .ok (.iaload, 1) := by decide +kernel
theorem dX0_dye_30 : decode cX0_dye 30 = .ok (.iload_n 3, 1) := by decide +kernel
theorem dX0_dye_31 : decode cX0_dye 31 = .ok (.iload 4, 2) := by decide +kernel
theorem dX0_dye_33 : decode cX0_dye 33 = .ok (.invokestatic 84, 3) := by decide +kernel
theorem dX0_dye_36 : decode cX0_dye 36 = .ok (.iastore, 1) := by decide +kernel
theorem dX0_dye_37 : decode cX0_dye 37 = .ok (.aload_n 0, 1) := by decide +kernel
theorem dX0_dye_38 : decode cX0_dye 38 = .ok (.getfield 28, 3) := by decide +kernel
theorem dX0_dye_41 : decode cX0_dye 41 = .ok (.iload 5, 2) := by decide +kernel
theorem dX0_dye_43 : decode cX0_dye 43 = .ok (.iaload, 1) := by decide +kernel
theorem dX0_dye_44 : decode cX0_dye 44 = .ok (.ireturn, 1) := by decide +kernel
set_option maxRecDepth 20000 in
theorem ggX0_seam_X0_requireCloth : GoodIn wsX0_seam wsX0_requireCloth := goodIn_ca (goodIn_r _ [7, 8, 9, 10, 25, 26, 27, 28, 29, 30, 31, 32, 33, 34, 35] (by decide +kernel) (by decide +kernel)) (goodIn_sub (fun _ h => List.mem_cons_of_mem _ (List.mem_append_left _ (List.mem_append_right _ h))) (by decide +kernel))
set_option maxRecDepth 20000 in
theorem gX0_seam_X0_requireCloth : GoodIn wsX0_seam (wsV RX0 97 RX0 yX0_requireCloth wsX0_requireCloth) := goodIn_app (goodIn_of _ (by decide +kernel)) ggX0_seam_X0_requireCloth
set_option maxRecDepth 20000 in
theorem ggX0_seam_X0_requireRow : GoodIn wsX0_seam wsX0_requireRow := goodIn_ca (goodIn_r _ [14, 15, 16, 10, 25, 26, 27, 28, 29, 30, 31, 32, 33, 34, 35] (by decide +kernel) (by decide +kernel)) (goodIn_sub (fun _ h => List.mem_cons_of_mem _ (List.mem_append_right _ h)) (by decide +kernel))
set_option maxRecDepth 20000 in
theorem gX0_seam_X0_requireRow : GoodIn wsX0_seam (wsV RX0 100 RX0 yX0_requireRow wsX0_requireRow) := goodIn_app (goodIn_of _ (by decide +kernel)) ggX0_seam_X0_requireRow
set_option maxRecDepth 20000 in
theorem ggX0_seam_X0_requireUncut : GoodIn wsX0_seam wsX0_requireUncut := goodIn_ca (goodIn_r _ [20, 8, 9, 21, 25, 26, 27, 28, 29, 30, 31, 32, 33, 34, 35] (by decide +kernel) (by decide +kernel)) (goodIn_sub (fun _ h => List.mem_cons_of_mem _ (List.mem_append_left _ (List.mem_append_right _ h))) (by decide +kernel))
set_option maxRecDepth 20000 in
theorem gX0_seam_X0_requireUncut : GoodIn wsX0_seam (wsV RX0 109 RX0 yX0_requireUncut wsX0_requireUncut) := goodIn_app (goodIn_of _ (by decide +kernel)) ggX0_seam_X0_requireUncut
set_option maxRecDepth 20000 in
theorem ggX0_seam_X0_clothIndex : GoodIn wsX0_seam wsX0_clothIndex := goodIn_r _ [24] (by decide +kernel) (by decide +kernel)
set_option maxRecDepth 20000 in
theorem gX0_seam_X0_clothIndex : GoodIn wsX0_seam (va_wsS RX0 115 yX0_clothIndex wsX0_clothIndex) := goodIn_app (goodIn_of _ (by decide +kernel)) ggX0_seam_X0_clothIndex
theorem dX0_seam_0 : decode cX0_seam 0 = .ok (.aload_n 0, 1) := by decide +kernel
theorem dX0_seam_1 : decode cX0_seam 1 = .ok (.invokevirtual 97, 3) := by decide +kernel
theorem dX0_seam_4 : decode cX0_seam 4 = .ok (.aload_n 0, 1) := by decide +kernel
theorem dX0_seam_5 : decode cX0_seam 5 = .ok (.iload_n 1, 1) := by decide +kernel
theorem dX0_seam_6 : decode cX0_seam 6 = .ok (.invokevirtual 100, 3) := by decide +kernel
theorem dX0_seam_9 : decode cX0_seam 9 = .ok (.aload_n 0, 1) := by decide +kernel
theorem dX0_seam_10 : decode cX0_seam 10 = .ok (.iload_n 1, 1) := by decide +kernel
theorem dX0_seam_11 : decode cX0_seam 11 = .ok (.invokevirtual 109, 3) := by decide +kernel
theorem dX0_seam_14 : decode cX0_seam 14 = .ok (.aload_n 0, 1) := by decide +kernel
theorem dX0_seam_15 : decode cX0_seam 15 = .ok (.iload_n 2, 1) := by decide +kernel
theorem dX0_seam_16 : decode cX0_seam 16 = .ok (.invokevirtual 100, 3) := by decide +kernel
theorem dX0_seam_19 : decode cX0_seam 19 = .ok (.aload_n 0, 1) := by decide +kernel
theorem dX0_seam_20 : decode cX0_seam 20 = .ok (.iload_n 2, 1) := by decide +kernel
theorem dX0_seam_21 : decode cX0_seam 21 = .ok (.invokevirtual 109, 3) := by decide +kernel
theorem dX0_seam_24 : decode cX0_seam 24 = .ok (.iconst 0, 1) := by decide +kernel
theorem dX0_seam_25 : decode cX0_seam 25 = .ok (.istore_n 3, 1) := by decide +kernel
theorem dX0_seam_26 : decode cX0_seam 26 = .ok (.iconst 0, 1) := by decide +kernel
theorem dX0_seam_27 : decode cX0_seam 27 = .ok (.istore 4, 2) := by decide +kernel
theorem dX0_seam_29 : decode cX0_seam 29 = .ok (.iload 4, 2) := by decide +kernel
theorem dX0_seam_31 : decode cX0_seam 31 = .ok (.aload_n 0, 1) := by decide +kernel
theorem dX0_seam_32 : decode cX0_seam 32 = .ok (.getfield 39, 3) := by decide +kernel
theorem dX0_seam_35 : decode cX0_seam 35 = .ok (.if_icmp .ge 37, 3) := by decide +kernel
theorem dX0_seam_38 : decode cX0_seam 38 = .ok (.aload_n 0, 1) := by decide +kernel
theorem dX0_seam_39 : decode cX0_seam 39 = .ok (.getfield 28, 3) := by decide +kernel
theorem dX0_seam_42 : decode cX0_seam 42 = .ok (.iload_n 1, 1) := by decide +kernel
theorem dX0_seam_43 : decode cX0_seam 43 = .ok (.iload 4, 2) := by decide +kernel
theorem dX0_seam_45 : decode cX0_seam 45 = .ok (.invokestatic 115, 3) := by decide +kernel
theorem dX0_seam_48 : decode cX0_seam 48 = .ok (.iaload, 1) := by decide +kernel
theorem dX0_seam_49 : decode cX0_seam 49 = .ok (.aload_n 0, 1) := by decide +kernel
theorem dX0_seam_50 : decode cX0_seam 50 = .ok (.getfield 28, 3) := by decide +kernel
theorem dX0_seam_53 : decode cX0_seam 53 = .ok (.iload_n 2, 1) := by decide +kernel
theorem dX0_seam_54 : decode cX0_seam 54 = .ok (.iload 4, 2) := by decide +kernel
theorem dX0_seam_56 : decode cX0_seam 56 = .ok (.invokestatic 115, 3) := by decide +kernel
theorem dX0_seam_59 : decode cX0_seam 59 = .ok (.iaload, 1) := by decide +kernel
theorem dX0_seam_60 : decode cX0_seam 60 = .ok (.if_icmp .ne 6, 3) := by decide +kernel
theorem dX0_seam_63 : decode cX0_seam 63 = .ok (.iinc 3 1, 3) := by decide +kernel
theorem dX0_seam_66 : decode cX0_seam 66 = .ok (.iinc 4 1, 3) := by decide +kernel
theorem dX0_seam_69 : decode cX0_seam 69 = .ok (.goto (-40), 3) := by decide +kernel
theorem dX0_seam_72 : decode cX0_seam 72 = .ok (.iload_n 3, 1) := by decide +kernel
theorem dX0_seam_73 : decode cX0_seam 73 = .ok (.ireturn, 1) := by decide +kernel
set_option maxRecDepth 20000 in
theorem ggX0_sum_X0_weightedCells : GoodIn wsX0_sum wsX0_weightedCells := goodIn_r _ [9, 10, 11, 12, 13, 8, 14, 24, 25, 26, 27, 28, 29, 30, 31, 32, 33, 34] (by decide +kernel) (by decide +kernel)
set_option maxRecDepth 20000 in
theorem gX0_sum_X0_weightedCells : GoodIn wsX0_sum (wsV RX0 121 RX0 yX0_weightedCells wsX0_weightedCells) := goodIn_app (goodIn_of _ (by decide +kernel)) ggX0_sum_X0_weightedCells
set_option maxRecDepth 20000 in
theorem ggX0_sum_X0_reelsOff : GoodIn wsX0_sum wsX0_reelsOff := goodIn_r _ [18, 10, 24, 25, 26, 27, 28, 29, 30, 31, 32, 33, 34] (by decide +kernel) (by decide +kernel)
set_option maxRecDepth 20000 in
theorem gX0_sum_X0_reelsOff : GoodIn wsX0_sum (wsV RX0 125 RX0 yX0_reelsOff wsX0_reelsOff) := goodIn_app (goodIn_of _ (by decide +kernel)) ggX0_sum_X0_reelsOff
set_option maxRecDepth 20000 in
theorem ggX0_sum_X0_rowsCut : GoodIn wsX0_sum wsX0_rowsCut := goodIn_r _ [22, 3, 23, 24, 25, 26, 27, 28, 29, 30, 31, 32, 33, 34] (by decide +kernel) (by decide +kernel)
set_option maxRecDepth 20000 in
theorem gX0_sum_X0_rowsCut : GoodIn wsX0_sum (wsV RX0 128 RX0 yX0_rowsCut wsX0_rowsCut) := goodIn_app (goodIn_of _ (by decide +kernel)) ggX0_sum_X0_rowsCut
theorem dX0_sum_0 : decode cX0_sum 0 = .ok (.iload_n 1, 1) := by decide +kernel
theorem dX0_sum_1 : decode cX0_sum 1 = .ok (.tableswitch 60 0 4 #[35, 40, 45, 50, 55], 35) := by decide +kernel
theorem dX0_sum_36 : decode cX0_sum 36 = .ok (.aload_n 0, 1) := by decide +kernel
theorem dX0_sum_37 : decode cX0_sum 37 = .ok (.invokevirtual 121, 3) := by decide +kernel
theorem dX0_sum_40 : decode cX0_sum 40 = .ok (.ireturn, 1) := by decide +kernel
theorem dX0_sum_41 : decode cX0_sum 41 = .ok (.aload_n 0, 1) := by decide +kernel
theorem dX0_sum_42 : decode cX0_sum 42 = .ok (.invokevirtual 125, 3) := by decide +kernel
theorem dX0_sum_45 : decode cX0_sum 45 = .ok (.ireturn, 1) := by decide +kernel
theorem dX0_sum_46 : decode cX0_sum 46 = .ok (.aload_n 0, 1) := by decide +kernel
theorem dX0_sum_47 : decode cX0_sum 47 = .ok (.getfield 35, 3) := by decide +kernel
theorem dX0_sum_50 : decode cX0_sum 50 = .ok (.ireturn, 1) := by decide +kernel
theorem dX0_sum_51 : decode cX0_sum 51 = .ok (.aload_n 0, 1) := by decide +kernel
theorem dX0_sum_52 : decode cX0_sum 52 = .ok (.getfield 39, 3) := by decide +kernel
theorem dX0_sum_55 : decode cX0_sum 55 = .ok (.ireturn, 1) := by decide +kernel
theorem dX0_sum_56 : decode cX0_sum 56 = .ok (.aload_n 0, 1) := by decide +kernel
theorem dX0_sum_57 : decode cX0_sum 57 = .ok (.invokevirtual 128, 3) := by decide +kernel
theorem dX0_sum_60 : decode cX0_sum 60 = .ok (.ireturn, 1) := by decide +kernel
theorem dX0_sum_61 : decode cX0_sum 61 = .ok (.new 55, 3) := by decide +kernel
theorem dX0_sum_64 : decode cX0_sum 64 = .ok (.dup, 1) := by decide +kernel
theorem dX0_sum_65 : decode cX0_sum 65 = .ok (.ldc 131, 2) := by decide +kernel
theorem dX0_sum_67 : decode cX0_sum 67 = .ok (.invokespecial 59, 3) := by decide +kernel
theorem dX0_sum_70 : decode cX0_sum 70 = .ok (.athrow, 1) := by decide +kernel
theorem dX0_requireSort_0 : decode cX0_requireSort 0 = .ok (.iload_n 0, 1) := by decide +kernel
theorem dX0_requireSort_1 : decode cX0_requireSort 1 = .ok (.ifCond .lt 8, 3) := by decide +kernel
theorem dX0_requireSort_4 : decode cX0_requireSort 4 = .ok (.iload_n 0, 1) := by decide +kernel
theorem dX0_requireSort_5 : decode cX0_requireSort 5 = .ok (.iconst 5, 1) := by decide +kernel
theorem dX0_requireSort_6 : decode cX0_requireSort 6 = .ok (.if_icmp .lt 13, 3) := by decide +kernel
theorem dX0_requireSort_9 : decode cX0_requireSort 9 = .ok (.new 55, 3) := by decide +kernel
theorem dX0_requireSort_12 : decode cX0_requireSort 12 = .ok (.dup, 1) := by decide +kernel
theorem dX0_requireSort_13 : decode cX0_requireSort 13 = .ok (.ldc 133, 2) := by decide +kernel
theorem dX0_requireSort_15 : decode cX0_requireSort 15 = .ok (.invokespecial 59, 3) := by decide +kernel
theorem dX0_requireSort_18 : decode cX0_requireSort 18 = .ok (.athrow, 1) := by decide +kernel
theorem dX0_requireSort_19 : decode cX0_requireSort 19 = .ok (.return_, 1) := by decide +kernel
theorem dX0_requireHow_0 : decode cX0_requireHow 0 = .ok (.iload_n 0, 1) := by decide +kernel
theorem dX0_requireHow_1 : decode cX0_requireHow 1 = .ok (.ifCond .lt 9, 3) := by decide +kernel
theorem dX0_requireHow_4 : decode cX0_requireHow 4 = .ok (.iload_n 0, 1) := by decide +kernel
theorem dX0_requireHow_5 : decode cX0_requireHow 5 = .ok (.bipush 8, 2) := by decide +kernel
theorem dX0_requireHow_7 : decode cX0_requireHow 7 = .ok (.if_icmp .le 13, 3) := by decide +kernel
theorem dX0_requireHow_10 : decode cX0_requireHow 10 = .ok (.new 55, 3) := by decide +kernel
theorem dX0_requireHow_13 : decode cX0_requireHow 13 = .ok (.dup, 1) := by decide +kernel
theorem dX0_requireHow_14 : decode cX0_requireHow 14 = .ok (.ldc 135, 2) := by decide +kernel
theorem dX0_requireHow_16 : decode cX0_requireHow 16 = .ok (.invokespecial 59, 3) := by decide +kernel
theorem dX0_requireHow_19 : decode cX0_requireHow 19 = .ok (.athrow, 1) := by decide +kernel
theorem dX0_requireHow_20 : decode cX0_requireHow 20 = .ok (.return_, 1) := by decide +kernel
set_option maxRecDepth 20000 in
theorem ggX0_requireAlterable_X0_requireHow : GoodIn wsX0_requireAlterable wsX0_requireHow := goodIn_ca (goodIn_r _ [8, 1, 2] (by decide +kernel) (by decide +kernel)) (goodIn_sub (fun _ h => List.mem_cons_of_mem _ (List.mem_append_right _ h)) (by decide +kernel))
set_option maxRecDepth 20000 in
theorem gX0_requireAlterable_X0_requireHow : GoodIn wsX0_requireAlterable (va_wsS RX0 118 yX0_requireHow wsX0_requireHow) := goodIn_app (goodIn_of _ (by decide +kernel)) ggX0_requireAlterable_X0_requireHow
theorem dX0_requireAlterable_0 : decode cX0_requireAlterable 0 = .ok (.iload_n 1, 1) := by decide +kernel
theorem dX0_requireAlterable_1 : decode cX0_requireAlterable 1 = .ok (.invokestatic 118, 3) := by decide +kernel
theorem dX0_requireAlterable_4 : decode cX0_requireAlterable 4 = .ok (.iload_n 0, 1) := by decide +kernel
theorem dX0_requireAlterable_5 : decode cX0_requireAlterable 5 = .ok (.iconst 2, 1) := by decide +kernel
theorem dX0_requireAlterable_6 : decode cX0_requireAlterable 6 = .ok (.if_icmp .ne 18, 3) := by decide +kernel
theorem dX0_requireAlterable_9 : decode cX0_requireAlterable 9 = .ok (.iload_n 1, 1) := by decide +kernel
theorem dX0_requireAlterable_10 : decode cX0_requireAlterable 10 = .ok (.iconst 1, 1) := by decide +kernel
theorem dX0_requireAlterable_11 : decode cX0_requireAlterable 11 = .ok (.if_icmp .le 13, 3) := by decide +kernel
theorem dX0_requireAlterable_14 : decode cX0_requireAlterable 14 = .ok (.new 55, 3) := by decide +kernel
theorem dX0_requireAlterable_17 : decode cX0_requireAlterable 17 = .ok (.dup, 1) := by decide +kernel
theorem dX0_requireAlterable_18 : decode cX0_requireAlterable 18 = .ok (.ldc 137, 2) := by decide +kernel
theorem dX0_requireAlterable_20 : decode cX0_requireAlterable 20 = .ok (.invokespecial 59, 3) := by decide +kernel
theorem dX0_requireAlterable_23 : decode cX0_requireAlterable 23 = .ok (.athrow, 1) := by decide +kernel
theorem dX0_requireAlterable_24 : decode cX0_requireAlterable 24 = .ok (.iload_n 0, 1) := by decide +kernel
theorem dX0_requireAlterable_25 : decode cX0_requireAlterable 25 = .ok (.iconst 2, 1) := by decide +kernel
theorem dX0_requireAlterable_26 : decode cX0_requireAlterable 26 = .ok (.if_icmp .ne 25, 3) := by decide +kernel
theorem dX0_requireAlterable_29 : decode cX0_requireAlterable 29 = .ok (.iload_n 2, 1) := by decide +kernel
theorem dX0_requireAlterable_30 : decode cX0_requireAlterable 30 = .ok (.ldc 139, 2) := by decide +kernel
theorem dX0_requireAlterable_32 : decode cX0_requireAlterable 32 = .ok (.if_icmp .lt 9, 3) := by decide +kernel
theorem dX0_requireAlterable_35 : decode cX0_requireAlterable 35 = .ok (.iload_n 2, 1) := by decide +kernel
theorem dX0_requireAlterable_36 : decode cX0_requireAlterable 36 = .ok (.ldc 140, 2) := by decide +kernel
theorem dX0_requireAlterable_38 : decode cX0_requireAlterable 38 = .ok (.if_icmp .le 13, 3) := by decide +kernel
theorem dX0_requireAlterable_41 : decode cX0_requireAlterable 41 = .ok (.new 55, 3) := by decide +kernel
theorem dX0_requireAlterable_44 : decode cX0_requireAlterable 44 = .ok (.dup, 1) := by decide +kernel
theorem dX0_requireAlterable_45 : decode cX0_requireAlterable 45 = .ok (.ldc 141, 2) := by decide +kernel
theorem dX0_requireAlterable_47 : decode cX0_requireAlterable 47 = .ok (.invokespecial 59, 3) := by decide +kernel
theorem dX0_requireAlterable_50 : decode cX0_requireAlterable 50 = .ok (.athrow, 1) := by decide +kernel
theorem dX0_requireAlterable_51 : decode cX0_requireAlterable 51 = .ok (.iload_n 0, 1) := by decide +kernel
theorem dX0_requireAlterable_52 : decode cX0_requireAlterable 52 = .ok (.iconst 3, 1) := by decide +kernel
theorem dX0_requireAlterable_53 : decode cX0_requireAlterable 53 = .ok (.if_icmp .ne 23, 3) := by decide +kernel
theorem dX0_requireAlterable_56 : decode cX0_requireAlterable 56 = .ok (.iload_n 1, 1) := by decide +kernel
theorem dX0_requireAlterable_57 : decode cX0_requireAlterable 57 = .ok (.iconst 3, 1) := by decide +kernel
theorem dX0_requireAlterable_58 : decode cX0_requireAlterable 58 = .ok (.if_icmp .lt 8, 3) := by decide +kernel
theorem dX0_requireAlterable_61 : decode cX0_requireAlterable 61 = .ok (.iload_n 1, 1) := by decide +kernel
theorem dX0_requireAlterable_62 : decode cX0_requireAlterable 62 = .ok (.iconst 5, 1) := by decide +kernel
theorem dX0_requireAlterable_63 : decode cX0_requireAlterable 63 = .ok (.if_icmp .le 13, 3) := by decide +kernel
theorem dX0_requireAlterable_66 : decode cX0_requireAlterable 66 = .ok (.new 55, 3) := by decide +kernel
theorem dX0_requireAlterable_69 : decode cX0_requireAlterable 69 = .ok (.dup, 1) := by decide +kernel
theorem dX0_requireAlterable_70 : decode cX0_requireAlterable 70 = .ok (.ldc 143, 2) := by decide +kernel
theorem dX0_requireAlterable_72 : decode cX0_requireAlterable 72 = .ok (.invokespecial 59, 3) := by decide +kernel
theorem dX0_requireAlterable_75 : decode cX0_requireAlterable 75 = .ok (.athrow, 1) := by decide +kernel
theorem dX0_requireAlterable_76 : decode cX0_requireAlterable 76 = .ok (.return_, 1) := by decide +kernel
theorem dX0_requireMounted_0 : decode cX0_requireMounted 0 = .ok (.aload_n 0, 1) := by decide +kernel
theorem dX0_requireMounted_1 : decode cX0_requireMounted 1 = .ok (.getfield 13, 3) := by decide +kernel
theorem dX0_requireMounted_4 : decode cX0_requireMounted 4 = .ok (.iload_n 1, 1) := by decide +kernel
theorem dX0_requireMounted_5 : decode cX0_requireMounted 5 = .ok (.iaload, 1) := by decide +kernel
theorem dX0_requireMounted_6 : decode cX0_requireMounted 6 = .ok (.iconst (-1), 1) := by decide +kernel
theorem dX0_requireMounted_7 : decode cX0_requireMounted 7 = .ok (.if_icmp .ne 13, 3) := by decide +kernel
theorem dX0_requireMounted_10 : decode cX0_requireMounted 10 = .ok (.new 145, 3) := by decide +kernel
theorem dX0_requireMounted_13 : decode cX0_requireMounted 13 = .ok (.dup, 1) := by decide +kernel
theorem dX0_requireMounted_14 : decode cX0_requireMounted 14 = .ok (.ldc 147, 2) := by decide +kernel
theorem dX0_requireMounted_16 : decode cX0_requireMounted 16 = .ok (.invokespecial 149, 3) := by decide +kernel
theorem dX0_requireMounted_19 : decode cX0_requireMounted 19 = .ok (.athrow, 1) := by decide +kernel
theorem dX0_requireMounted_20 : decode cX0_requireMounted 20 = .ok (.return_, 1) := by decide +kernel
theorem dX0_requireCell_0 : decode cX0_requireCell 0 = .ok (.iload_n 2, 1) := by decide +kernel
theorem dX0_requireCell_1 : decode cX0_requireCell 1 = .ok (.ifCond .lt 13, 3) := by decide +kernel
theorem dX0_requireCell_4 : decode cX0_requireCell 4 = .ok (.iload_n 2, 1) := by decide +kernel
theorem dX0_requireCell_5 : decode cX0_requireCell 5 = .ok (.aload_n 0, 1) := by decide +kernel
theorem dX0_requireCell_6 : decode cX0_requireCell 6 = .ok (.getfield 13, 3) := by decide +kernel
theorem dX0_requireCell_9 : decode cX0_requireCell 9 = .ok (.iload_n 1, 1) := by decide +kernel
theorem dX0_requireCell_10 : decode cX0_requireCell 10 = .ok (.iaload, 1) := by decide +kernel
theorem dX0_requireCell_11 : decode cX0_requireCell 11 = .ok (.if_icmp .lt 13, 3) := by decide +kernel
theorem dX0_requireCell_14 : decode cX0_requireCell 14 = .ok (.new 150, 3) := by decide +kernel
theorem dX0_requireCell_17 : decode cX0_requireCell 17 = .ok (.dup, 1) := by decide +kernel
theorem dX0_requireCell_18 : decode cX0_requireCell 18 = .ok (.ldc 152, 2) := by decide +kernel
theorem dX0_requireCell_20 : decode cX0_requireCell 20 = .ok (.invokespecial 154, 3) := by decide +kernel
theorem dX0_requireCell_23 : decode cX0_requireCell 23 = .ok (.athrow, 1) := by decide +kernel
theorem dX0_requireCell_24 : decode cX0_requireCell 24 = .ok (.return_, 1) := by decide +kernel
theorem dX0_requireCloth_0 : decode cX0_requireCloth 0 = .ok (.aload_n 0, 1) := by decide +kernel
theorem dX0_requireCloth_1 : decode cX0_requireCloth 1 = .ok (.getfield 35, 3) := by decide +kernel
theorem dX0_requireCloth_4 : decode cX0_requireCloth 4 = .ok (.iconst (-1), 1) := by decide +kernel
theorem dX0_requireCloth_5 : decode cX0_requireCloth 5 = .ok (.if_icmp .ne 13, 3) := by decide +kernel
theorem dX0_requireCloth_8 : decode cX0_requireCloth 8 = .ok (.new 145, 3) := by decide +kernel
theorem dX0_requireCloth_11 : decode cX0_requireCloth 11 = .ok (.dup, 1) := by decide +kernel
theorem dX0_requireCloth_12 : decode cX0_requireCloth 12 = .ok (.ldc 155, 2) := by decide +kernel
theorem dX0_requireCloth_14 : decode cX0_requireCloth 14 = .ok (.invokespecial 149, 3) := by decide +kernel
theorem dX0_requireCloth_17 : decode cX0_requireCloth 17 = .ok (.athrow, 1) := by decide +kernel
theorem dX0_requireCloth_18 : decode cX0_requireCloth 18 = .ok (.return_, 1) := by decide +kernel
theorem dX0_requireRow_0 : decode cX0_requireRow 0 = .ok (.iload_n 1, 1) := by decide +kernel
theorem dX0_requireRow_1 : decode cX0_requireRow 1 = .ok (.ifCond .lt 11, 3) := by decide +kernel
theorem dX0_requireRow_4 : decode cX0_requireRow 4 = .ok (.iload_n 1, 1) := by decide +kernel
theorem dX0_requireRow_5 : decode cX0_requireRow 5 = .ok (.aload_n 0, 1) := by decide +kernel
theorem dX0_requireRow_6 : decode cX0_requireRow 6 = .ok (.getfield 35, 3) := by decide +kernel
theorem dX0_requireRow_9 : decode cX0_requireRow 9 = .ok (.if_icmp .lt 13, 3) := by decide +kernel
theorem dX0_requireRow_12 : decode cX0_requireRow 12 = .ok (.new 150, 3) := by decide +kernel
theorem dX0_requireRow_15 : decode cX0_requireRow 15 = .ok (.dup, 1) := by decide +kernel
theorem dX0_requireRow_16 : decode cX0_requireRow 16 = .ok (.ldc 157, 2) := by decide +kernel
theorem dX0_requireRow_18 : decode cX0_requireRow 18 = .ok (.invokespecial 154, 3) := by decide +kernel
theorem dX0_requireRow_21 : decode cX0_requireRow 21 = .ok (.athrow, 1) := by decide +kernel
theorem dX0_requireRow_22 : decode cX0_requireRow 22 = .ok (.return_, 1) := by decide +kernel
theorem dX0_requireUncut_0 : decode cX0_requireUncut 0 = .ok (.aload_n 0, 1) := by decide +kernel
theorem dX0_requireUncut_1 : decode cX0_requireUncut 1 = .ok (.getfield 31, 3) := by decide +kernel
theorem dX0_requireUncut_4 : decode cX0_requireUncut 4 = .ok (.iload_n 1, 1) := by decide +kernel
theorem dX0_requireUncut_5 : decode cX0_requireUncut 5 = .ok (.baload, 1) := by decide +kernel
theorem dX0_requireUncut_6 : decode cX0_requireUncut 6 = .ok (.ifCond .eq 13, 3) := by decide +kernel
theorem dX0_requireUncut_9 : decode cX0_requireUncut 9 = .ok (.new 145, 3) := by decide +kernel
theorem dX0_requireUncut_12 : decode cX0_requireUncut 12 = .ok (.dup, 1) := by decide +kernel
theorem dX0_requireUncut_13 : decode cX0_requireUncut 13 = .ok (.ldc 159, 2) := by decide +kernel
theorem dX0_requireUncut_15 : decode cX0_requireUncut 15 = .ok (.invokespecial 149, 3) := by decide +kernel
theorem dX0_requireUncut_18 : decode cX0_requireUncut 18 = .ok (.athrow, 1) := by decide +kernel
theorem dX0_requireUncut_19 : decode cX0_requireUncut 19 = .ok (.return_, 1) := by decide +kernel
set_option maxRecDepth 20000 in
theorem ggX0_requireClothCell_X0_requireCloth : GoodIn wsX0_requireClothCell wsX0_requireCloth := goodIn_ca (goodIn_r _ [8, 9, 10, 11, 21, 22, 23, 24, 25, 26, 27, 28, 29, 30, 31] (by decide +kernel) (by decide +kernel)) (goodIn_sub (fun _ h => List.mem_cons_of_mem _ (List.mem_append_right _ h)) (by decide +kernel))
set_option maxRecDepth 20000 in
theorem gX0_requireClothCell_X0_requireCloth : GoodIn wsX0_requireClothCell (wsV RX0 97 RX0 yX0_requireCloth wsX0_requireCloth) := goodIn_app (goodIn_of _ (by decide +kernel)) ggX0_requireClothCell_X0_requireCloth
set_option maxRecDepth 20000 in
theorem ggX0_requireClothCell_X0_requireRow : GoodIn wsX0_requireClothCell wsX0_requireRow := goodIn_ca (goodIn_r _ [15, 1, 2, 11, 21, 22, 23, 24, 25, 26, 27, 28, 29, 30, 31] (by decide +kernel) (by decide +kernel)) (goodIn_sub (fun _ h => List.mem_cons_of_mem _ (List.mem_append_left _ (List.mem_append_right _ h))) (by decide +kernel))
set_option maxRecDepth 20000 in
theorem gX0_requireClothCell_X0_requireRow : GoodIn wsX0_requireClothCell (wsV RX0 100 RX0 yX0_requireRow wsX0_requireRow) := goodIn_app (goodIn_of _ (by decide +kernel)) ggX0_requireClothCell_X0_requireRow
set_option maxRecDepth 20000 in
theorem ggX0_requireClothCell_X0_requireUncut : GoodIn wsX0_requireClothCell wsX0_requireUncut := goodIn_ca (goodIn_r _ [19, 9, 10, 20, 21, 22, 23, 24, 25, 26, 27, 28, 29, 30, 31] (by decide +kernel) (by decide +kernel)) (goodIn_sub (fun _ h => List.mem_cons_of_mem _ (List.mem_append_right _ h)) (by decide +kernel))
set_option maxRecDepth 20000 in
theorem gX0_requireClothCell_X0_requireUncut : GoodIn wsX0_requireClothCell (wsV RX0 109 RX0 yX0_requireUncut wsX0_requireUncut) := goodIn_app (goodIn_of _ (by decide +kernel)) ggX0_requireClothCell_X0_requireUncut
theorem dX0_requireClothCell_0 : decode cX0_requireClothCell 0 = .ok (.aload_n 0, 1) := by decide +kernel
theorem dX0_requireClothCell_1 : decode cX0_requireClothCell 1 = .ok (.invokevirtual 97, 3) := by decide +kernel
theorem dX0_requireClothCell_4 : decode cX0_requireClothCell 4 = .ok (.aload_n 0, 1) := by decide +kernel
theorem dX0_requireClothCell_5 : decode cX0_requireClothCell 5 = .ok (.iload_n 1, 1) := by decide +kernel
theorem dX0_requireClothCell_6 : decode cX0_requireClothCell 6 = .ok (.invokevirtual 100, 3) := by decide +kernel
theorem dX0_requireClothCell_9 : decode cX0_requireClothCell 9 = .ok (.aload_n 0, 1) := by decide +kernel
theorem dX0_requireClothCell_10 : decode cX0_requireClothCell 10 = .ok (.iload_n 1, 1) := by decide +kernel
theorem dX0_requireClothCell_11 : decode cX0_requireClothCell 11 = .ok (.invokevirtual 109, 3) := by decide +kernel
theorem dX0_requireClothCell_14 : decode cX0_requireClothCell 14 = .ok (.iload_n 2, 1) := by decide +kernel
theorem dX0_requireClothCell_15 : decode cX0_requireClothCell 15 = .ok (.ifCond .lt 11, 3) := by decide +kernel
theorem dX0_requireClothCell_18 : decode cX0_requireClothCell 18 = .ok (.iload_n 2, 1) := by decide +kernel
theorem dX0_requireClothCell_19 : decode cX0_requireClothCell 19 = .ok (.aload_n 0, 1) := by decide +kernel
theorem dX0_requireClothCell_20 : decode cX0_requireClothCell 20 = .ok (.getfield 39, 3) := by decide +kernel
theorem dX0_requireClothCell_23 : decode cX0_requireClothCell 23 = .ok (.if_icmp .lt 13, 3) := by decide +kernel
theorem dX0_requireClothCell_26 : decode cX0_requireClothCell 26 = .ok (.new 150, 3) := by decide +kernel
theorem dX0_requireClothCell_29 : decode cX0_requireClothCell 29 = .ok (.dup, 1) := by decide +kernel
theorem dX0_requireClothCell_30 : decode cX0_requireClothCell 30 = .ok (.ldc 161, 2) := by decide +kernel
theorem dX0_requireClothCell_32 : decode cX0_requireClothCell 32 = .ok (.invokespecial 154, 3) := by decide +kernel
theorem dX0_requireClothCell_35 : decode cX0_requireClothCell 35 = .ok (.athrow, 1) := by decide +kernel
theorem dX0_requireClothCell_36 : decode cX0_requireClothCell 36 = .ok (.return_, 1) := by decide +kernel
theorem dX0_reelIndex_0 : decode cX0_reelIndex 0 = .ok (.iload_n 0, 1) := by decide +kernel
theorem dX0_reelIndex_1 : decode cX0_reelIndex 1 = .ok (.bipush 64, 2) := by decide +kernel
theorem dX0_reelIndex_3 : decode cX0_reelIndex 3 = .ok (.imul, 1) := by decide +kernel
theorem dX0_reelIndex_4 : decode cX0_reelIndex 4 = .ok (.iload_n 1, 1) := by decide +kernel
theorem dX0_reelIndex_5 : decode cX0_reelIndex 5 = .ok (.iadd, 1) := by decide +kernel
theorem dX0_reelIndex_6 : decode cX0_reelIndex 6 = .ok (.ireturn, 1) := by decide +kernel
theorem dX0_clothIndex_0 : decode cX0_clothIndex 0 = .ok (.iload_n 0, 1) := by decide +kernel
theorem dX0_clothIndex_1 : decode cX0_clothIndex 1 = .ok (.bipush 40, 2) := by decide +kernel
theorem dX0_clothIndex_3 : decode cX0_clothIndex 3 = .ok (.imul, 1) := by decide +kernel
theorem dX0_clothIndex_4 : decode cX0_clothIndex 4 = .ok (.iload_n 1, 1) := by decide +kernel
theorem dX0_clothIndex_5 : decode cX0_clothIndex 5 = .ok (.iadd, 1) := by decide +kernel
theorem dX0_clothIndex_6 : decode cX0_clothIndex 6 = .ok (.ireturn, 1) := by decide +kernel
theorem dX0_fitted_0 : decode cX0_fitted 0 = .ok (.iload_n 0, 1) := by decide +kernel
theorem dX0_fitted_1 : decode cX0_fitted 1 = .ok (.tableswitch 61 0 3 #[31, 36, 39, 51], 31) := by decide +kernel
theorem dX0_fitted_32 : decode cX0_fitted 32 = .ok (.iload_n 1, 1) := by decide +kernel
theorem dX0_fitted_33 : decode cX0_fitted 33 = .ok (.ldc 94, 2) := by decide +kernel
theorem dX0_fitted_35 : decode cX0_fitted 35 = .ok (.iand, 1) := by decide +kernel
theorem dX0_fitted_36 : decode cX0_fitted 36 = .ok (.ireturn, 1) := by decide +kernel
theorem dX0_fitted_37 : decode cX0_fitted 37 = .ok (.iload_n 1, 1) := by decide +kernel
theorem dX0_fitted_38 : decode cX0_fitted 38 = .ok (.i2s, 1) := by decide +kernel
theorem dX0_fitted_39 : decode cX0_fitted 39 = .ok (.ireturn, 1) := by decide +kernel
theorem dX0_fitted_40 : decode cX0_fitted 40 = .ok (.ldc 139, 2) := by decide +kernel
theorem dX0_fitted_42 : decode cX0_fitted 42 = .ok (.ldc 140, 2) := by decide +kernel
theorem dX0_fitted_44 : decode cX0_fitted 44 = .ok (.iload_n 1, 1) := by decide +kernel
theorem dX0_fitted_45 : decode cX0_fitted 45 = .ok (.invokestatic 163, 3) := by decide +kernel
theorem dX0_fitted_48 : decode cX0_fitted 48 = .ok (.invokestatic 168, 3) := by decide +kernel
theorem dX0_fitted_51 : decode cX0_fitted 51 = .ok (.ireturn, 1) := by decide +kernel
theorem dX0_fitted_52 : decode cX0_fitted 52 = .ok (.iload_n 1, 1) := by decide +kernel
theorem dX0_fitted_53 : decode cX0_fitted 53 = .ok (.ifCond .ne 7, 3) := by decide +kernel
theorem dX0_fitted_56 : decode cX0_fitted 56 = .ok (.iconst 0, 1) := by decide +kernel
theorem dX0_fitted_57 : decode cX0_fitted 57 = .ok (.goto 4, 3) := by decide +kernel
theorem dX0_fitted_60 : decode cX0_fitted 60 = .ok (.iconst 1, 1) := by decide +kernel
theorem dX0_fitted_61 : decode cX0_fitted 61 = .ok (.ireturn, 1) := by decide +kernel
theorem dX0_fitted_62 : decode cX0_fitted 62 = .ok (.iload_n 1, 1) := by decide +kernel
theorem dX0_fitted_63 : decode cX0_fitted 63 = .ok (.i2b, 1) := by decide +kernel
theorem dX0_fitted_64 : decode cX0_fitted 64 = .ok (.ireturn, 1) := by decide +kernel
