theorem dX2_hunt_55 : decode cX2_hunt 55 = .ok (.return_, 1) := by decide +kernel
theorem dX2_huntOne_0 : decode cX2_huntOne 0 = .ok (.lload_n 2, 1) := by decide +kernel
theorem dX2_huntOne_1 : decode cX2_huntOne 1 = .ok (.aload_n 0, 1) := by decide +kernel
theorem dX2_huntOne_2 : decode cX2_huntOne 2 = .ok (.getfield 24, 3) := by decide +kernel
theorem dX2_huntOne_5 : decode cX2_huntOne 5 = .ok (.iload_n 1, 1) := by decide +kernel
theorem dX2_huntOne_6 : decode cX2_huntOne 6 = .ok (.laload, 1) := by decide +kernel
theorem dX2_huntOne_7 : decode cX2_huntOne 7 = .ok (.lcmp, 1) := by decide +kernel
theorem dX2_huntOne_8 : decode cX2_huntOne 8 = .ok (.ifCond .ge 16, 3) := by decide +kernel
theorem dX2_huntOne_11 : decode cX2_huntOne 11 = .ok (.aload_n 0, 1) := by decide +kernel
theorem dX2_huntOne_12 : decode cX2_huntOne 12 = .ok (.getfield 18, 3) := by decide +kernel
theorem dX2_huntOne_15 : decode cX2_huntOne 15 = .ok (.iload_n 1, 1) := by decide +kernel
theorem dX2_huntOne_16 : decode cX2_huntOne 16 = .ok (.aload_n 0, 1) := by decide +kernel
theorem dX2_huntOne_17 : decode cX2_huntOne 17 = .ok (.getfield 18, 3) := by decide +kernel
theorem dX2_huntOne_20 : decode cX2_huntOne 20 = .ok (.iload_n 1, 1) := by decide +kernel
theorem dX2_huntOne_21 : decode cX2_huntOne 21 = .ok (.iaload, 1) := by decide +kernel
theorem dX2_huntOne_22 : decode cX2_huntOne 22 = .ok (.ineg, 1) := by decide +kernel
theorem dX2_huntOne_23 : decode cX2_huntOne 23 = .ok (.iastore, 1) := by decide +kernel
theorem dX2_huntOne_24 : decode cX2_huntOne 24 = .ok (.aload_n 0, 1) := by decide +kernel
theorem dX2_huntOne_25 : decode cX2_huntOne 25 = .ok (.getfield 24, 3) := by decide +kernel
theorem dX2_huntOne_28 : decode cX2_huntOne 28 = .ok (.iload_n 1, 1) := by decide +kernel
theorem dX2_huntOne_29 : decode cX2_huntOne 29 = .ok (.lload_n 2, 1) := by decide +kernel
theorem dX2_huntOne_30 : decode cX2_huntOne 30 = .ok (.lastore, 1) := by decide +kernel
theorem dX2_huntOne_31 : decode cX2_huntOne 31 = .ok (.aload_n 0, 1) := by decide +kernel
theorem dX2_huntOne_32 : decode cX2_huntOne 32 = .ok (.getfield 28, 3) := by decide +kernel
theorem dX2_huntOne_35 : decode cX2_huntOne 35 = .ok (.getfield 57, 3) := by decide +kernel
theorem dX2_huntOne_38 : decode cX2_huntOne 38 = .ok (.iload_n 1, 1) := by decide +kernel
theorem dX2_huntOne_39 : decode cX2_huntOne 39 = .ok (.iaload, 1) := by decide +kernel
theorem dX2_huntOne_40 : decode cX2_huntOne 40 = .ok (.aload_n 0, 1) := by decide +kernel
theorem dX2_huntOne_41 : decode cX2_huntOne 41 = .ok (.getfield 18, 3) := by decide +kernel
theorem dX2_huntOne_44 : decode cX2_huntOne 44 = .ok (.iload_n 1, 1) := by decide +kernel
theorem dX2_huntOne_45 : decode cX2_huntOne 45 = .ok (.iaload, 1) := by decide +kernel
theorem dX2_huntOne_46 : decode cX2_huntOne 46 = .ok (.iadd, 1) := by decide +kernel
theorem dX2_huntOne_47 : decode cX2_huntOne 47 = .ok (.istore 4, 2) := by decide +kernel
theorem dX2_huntOne_49 : decode cX2_huntOne 49 = .ok (.aload_n 0, 1) := by decide +kernel
theorem dX2_huntOne_50 : decode cX2_huntOne 50 = .ok (.getfield 28, 3) := by decide +kernel
theorem dX2_huntOne_53 : decode cX2_huntOne 53 = .ok (.getfield 57, 3) := by decide +kernel
theorem dX2_huntOne_56 : decode cX2_huntOne 56 = .ok (.iload_n 1, 1) := by decide +kernel
theorem dX2_huntOne_57 : decode cX2_huntOne 57 = .ok (.bipush 99, 2) := by decide +kernel
theorem dX2_huntOne_59 : decode cX2_huntOne 59 = .ok (.iconst 0, 1) := by decide +kernel
theorem dX2_huntOne_60 : decode cX2_huntOne 60 = .ok (.iload 4, 2) := by decide +kernel
theorem dX2_huntOne_62 : decode cX2_huntOne 62 = .ok (.invokestatic 60, 3) := by decide +kernel
theorem dX2_huntOne_65 : decode cX2_huntOne 65 = .ok (.invokestatic 66, 3) := by decide +kernel
theorem dX2_huntOne_68 : decode cX2_huntOne 68 = .ok (.iastore, 1) := by decide +kernel
theorem dX2_huntOne_69 : decode cX2_huntOne 69 = .ok (.aload_n 0, 1) := by decide +kernel
theorem dX2_huntOne_70 : decode cX2_huntOne 70 = .ok (.getfield 21, 3) := by decide +kernel
theorem dX2_huntOne_73 : decode cX2_huntOne 73 = .ok (.iload_n 1, 1) := by decide +kernel
theorem dX2_huntOne_74 : decode cX2_huntOne 74 = .ok (.lload_n 2, 1) := by decide +kernel
theorem dX2_huntOne_75 : decode cX2_huntOne 75 = .ok (.lconst 0, 1) := by decide +kernel
theorem dX2_huntOne_76 : decode cX2_huntOne 76 = .ok (.lcmp, 1) := by decide +kernel
theorem dX2_huntOne_77 : decode cX2_huntOne 77 = .ok (.ifCond .ne 14, 3) := by decide +kernel
theorem dX2_huntOne_80 : decode cX2_huntOne 80 = .ok (.aload_n 0, 1) := by decide +kernel
theorem dX2_huntOne_81 : decode cX2_huntOne 81 = .ok (.getfield 21, 3) := by decide +kernel
theorem dX2_huntOne_84 : decode cX2_huntOne 84 = .ok (.iload_n 1, 1) := by decide +kernel
theorem dX2_huntOne_85 : decode cX2_huntOne 85 = .ok (.iaload, 1) := by decide +kernel
theorem dX2_huntOne_86 : decode cX2_huntOne 86 = .ok (.iconst 1, 1) := by decide +kernel
theorem dX2_huntOne_87 : decode cX2_huntOne 87 = .ok (.iadd, 1) := by decide +kernel
theorem dX2_huntOne_88 : decode cX2_huntOne 88 = .ok (.goto 4, 3) := by decide +kernel
theorem dX2_huntOne_91 : decode cX2_huntOne 91 = .ok (.iconst 0, 1) := by decide +kernel
theorem dX2_huntOne_92 : decode cX2_huntOne 92 = .ok (.iastore, 1) := by decide +kernel
theorem dX2_huntOne_93 : decode cX2_huntOne 93 = .ok (.aload_n 0, 1) := by decide +kernel
theorem dX2_huntOne_94 : decode cX2_huntOne 94 = .ok (.getfield 21, 3) := by decide +kernel
theorem dX2_huntOne_97 : decode cX2_huntOne 97 = .ok (.iload_n 1, 1) := by decide +kernel
theorem dX2_huntOne_98 : decode cX2_huntOne 98 = .ok (.iaload, 1) := by decide +kernel
theorem dX2_huntOne_99 : decode cX2_huntOne 99 = .ok (.bipush 8, 2) := by decide +kernel
theorem dX2_huntOne_101 : decode cX2_huntOne 101 = .ok (.if_icmp .lt 20, 3) := by decide +kernel
theorem dX2_huntOne_104 : decode cX2_huntOne 104 = .ok (.aload_n 0, 1) := by decide +kernel
theorem dX2_huntOne_105 : decode cX2_huntOne 105 = .ok (.getfield 9, 3) := by decide +kernel
theorem dX2_huntOne_108 : decode cX2_huntOne 108 = .ok (.iload_n 1, 1) := by decide +kernel
theorem dX2_huntOne_109 : decode cX2_huntOne 109 = .ok (.iconst (-1), 1) := by decide +kernel
theorem dX2_huntOne_110 : decode cX2_huntOne 110 = .ok (.iastore, 1) := by decide +kernel
theorem dX2_huntOne_111 : decode cX2_huntOne 111 = .ok (.aload_n 0, 1) := by decide +kernel
theorem dX2_huntOne_112 : decode cX2_huntOne 112 = .ok (.getfield 15, 3) := by decide +kernel
theorem dX2_huntOne_115 : decode cX2_huntOne 115 = .ok (.iload_n 1, 1) := by decide +kernel
theorem dX2_huntOne_116 : decode cX2_huntOne 116 = .ok (.dup2, 1) := by decide +kernel
theorem dX2_huntOne_117 : decode cX2_huntOne 117 = .ok (.iaload, 1) := by decide +kernel
theorem dX2_huntOne_118 : decode cX2_huntOne 118 = .ok (.iconst 1, 1) := by decide +kernel
theorem dX2_huntOne_119 : decode cX2_huntOne 119 = .ok (.iadd, 1) := by decide +kernel
theorem dX2_huntOne_120 : decode cX2_huntOne 120 = .ok (.iastore, 1) := by decide +kernel
theorem dX2_huntOne_121 : decode cX2_huntOne 121 = .ok (.return_, 1) := by decide +kernel
set_option maxRecDepth 20000 in
theorem ggX3_init_X0_init : GoodIn wsX3_init wsX0_init := goodIn_r _ [20, 21, 2, 3, 22, 23, 24, 25, 26, 27, 28, 29, 30, 31, 32, 57, 58, 59, 60, 61, 62, 63] (by decide +kernel) (by decide +kernel)
set_option maxRecDepth 20000 in
theorem gX3_init_X0_init : GoodIn wsX3_init (wsX0_init) := ggX3_init_X0_init
set_option maxRecDepth 20000 in
theorem ggX3_init_X1_init : GoodIn wsX3_init wsX1_init := goodIn_r _ [35, 36, 2, 3, 37, 38, 39, 40, 41, 42, 22, 43, 44, 69, 70, 71, 72, 73, 74, 75, 76, 77, 78, 79, 80, 81] (by decide +kernel) (by decide +kernel)
set_option maxRecDepth 20000 in
theorem gX3_init_X1_init : GoodIn wsX3_init (wsX1_init) := ggX3_init_X1_init
set_option maxRecDepth 20000 in
theorem ggX3_init_X2_init : GoodIn wsX3_init wsX2_init := goodIn_r _ [47, 48, 2, 3, 22, 49, 50, 51, 52, 37, 53, 54, 55, 56, 30, 31, 32, 82, 83, 84, 85, 86, 87, 88] (by decide +kernel) (by decide +kernel)
set_option maxRecDepth 20000 in
theorem gX3_init_X2_init : GoodIn wsX3_init (wsX2_init) := ggX3_init_X2_init
theorem dX3_init_0 : decode cX3_init 0 = .ok (.aload_n 0, 1) := by decide +kernel
theorem dX3_init_1 : decode cX3_init 1 = .ok (.invokespecial 1, 3) := by decide +kernel
theorem dX3_init_4 : decode cX3_init 4 = .ok (.aload_n 0, 1) := by decide +kernel
theorem dX3_init_5 : decode cX3_init 5 = .ok (.new 7, 3) := by decide +kernel
theorem dX3_init_8 : decode cX3_init 8 = .ok (.dup, 1) := by decide +kernel
theorem dX3_init_9 : decode cX3_init 9 = .ok (.invokespecial 9, 3) := by decide +kernel
theorem dX3_init_12 : decode cX3_init 12 = .ok (.putfield 10, 3) := by decide +kernel
theorem dX3_init_15 : decode cX3_init 15 = .ok (.aload_n 0, 1) := by decide +kernel
theorem dX3_init_16 : decode cX3_init 16 = .ok (.new 16, 3) := by decide +kernel
theorem dX3_init_19 : decode cX3_init 19 = .ok (.dup, 1) := by decide +kernel
theorem dX3_init_20 : decode cX3_init 20 = .ok (.aload_n 0, 1) := by decide +kernel
theorem dX3_init_21 : decode cX3_init 21 = .ok (.getfield 10, 3) := by decide +kernel
theorem dX3_init_24 : decode cX3_init 24 = .ok (.invokespecial 18, 3) := by decide +kernel
theorem dX3_init_27 : decode cX3_init 27 = .ok (.putfield 21, 3) := by decide +kernel
theorem dX3_init_30 : decode cX3_init 30 = .ok (.aload_n 0, 1) := by decide +kernel
theorem dX3_init_31 : decode cX3_init 31 = .ok (.new 16, 3) := by decide +kernel
theorem dX3_init_34 : decode cX3_init 34 = .ok (.dup, 1) := by decide +kernel
theorem dX3_init_35 : decode cX3_init 35 = .ok (.aload_n 0, 1) := by decide +kernel
theorem dX3_init_36 : decode cX3_init 36 = .ok (.getfield 10, 3) := by decide +kernel
theorem dX3_init_39 : decode cX3_init 39 = .ok (.invokespecial 18, 3) := by decide +kernel
theorem dX3_init_42 : decode cX3_init 42 = .ok (.putfield 25, 3) := by decide +kernel
theorem dX3_init_45 : decode cX3_init 45 = .ok (.aload_n 0, 1) := by decide +kernel
theorem dX3_init_46 : decode cX3_init 46 = .ok (.new 28, 3) := by decide +kernel
theorem dX3_init_49 : decode cX3_init 49 = .ok (.dup, 1) := by decide +kernel
theorem dX3_init_50 : decode cX3_init 50 = .ok (.aload_n 0, 1) := by decide +kernel
theorem dX3_init_51 : decode cX3_init 51 = .ok (.getfield 10, 3) := by decide +kernel
theorem dX3_init_54 : decode cX3_init 54 = .ok (.aload_n 0, 1) := by decide +kernel
theorem dX3_init_55 : decode cX3_init 55 = .ok (.getfield 21, 3) := by decide +kernel
theorem dX3_init_58 : decode cX3_init 58 = .ok (.invokespecial 30, 3) := by decide +kernel
theorem dX3_init_61 : decode cX3_init 61 = .ok (.putfield 33, 3) := by decide +kernel
theorem dX3_init_64 : decode cX3_init 64 = .ok (.aload_n 0, 1) := by decide +kernel
theorem dX3_init_65 : decode cX3_init 65 = .ok (.iconst 1, 1) := by decide +kernel
theorem dX3_init_66 : decode cX3_init 66 = .ok (.putfield 37, 3) := by decide +kernel
theorem dX3_init_69 : decode cX3_init 69 = .ok (.return_, 1) := by decide +kernel
set_option maxRecDepth 20000 in
theorem ggX3_part_X3_needRange : GoodIn wsX3_part wsX3_needRange := goodIn_ca (goodIn_r _ [11, 12, 13] (by decide +kernel) (by decide +kernel)) (goodIn_sub (fun _ h => List.mem_cons_of_mem _ (List.mem_append_right _ h)) (by decide +kernel))
set_option maxRecDepth 20000 in
theorem gX3_part_X3_needRange : GoodIn wsX3_part (va_wsS RX3 41 yX3_needRange wsX3_needRange) := goodIn_app (goodIn_of _ (by decide +kernel)) ggX3_part_X3_needRange
set_option maxRecDepth 20000 in
theorem ggX3_part_X3_ofKind : GoodIn wsX3_part wsX3_ofKind := goodIn_r _ [16] (by decide +kernel) (by decide +kernel)
set_option maxRecDepth 20000 in
theorem gX3_part_X3_ofKind : GoodIn wsX3_part (va_wsS RX3 49 yX3_ofKind wsX3_ofKind) := goodIn_app (goodIn_of _ (by decide +kernel)) ggX3_part_X3_ofKind
set_option maxRecDepth 20000 in
theorem ggX3_part_X0_place : GoodIn wsX3_part wsX0_place := goodIn_r _ [21, 22, 23, 24, 25, 26, 27, 33, 34, 35, 36, 37, 38, 39] (by decide +kernel) (by decide +kernel)
set_option maxRecDepth 20000 in
theorem gX3_part_X0_place : GoodIn wsX3_part (wsV RX3 69 RX0 yX0_place wsX0_place) := goodIn_app (goodIn_of _ (by decide +kernel)) ggX3_part_X0_place
theorem dX3_part_0 : decode cX3_part 0 = .ok (.iload_n 1, 1) := by decide +kernel
theorem dX3_part_1 : decode cX3_part 1 = .ok (.iconst 0, 1) := by decide +kernel
theorem dX3_part_2 : decode cX3_part 2 = .ok (.iconst 5, 1) := by decide +kernel
theorem dX3_part_3 : decode cX3_part 3 = .ok (.invokestatic 41, 3) := by decide +kernel
theorem dX3_part_6 : decode cX3_part 6 = .ok (.iload_n 2, 1) := by decide +kernel
theorem dX3_part_7 : decode cX3_part 7 = .ok (.iconst 0, 1) := by decide +kernel
theorem dX3_part_8 : decode cX3_part 8 = .ok (.bipush 15, 2) := by decide +kernel
theorem dX3_part_10 : decode cX3_part 10 = .ok (.invokestatic 41, 3) := by decide +kernel
theorem dX3_part_13 : decode cX3_part 13 = .ok (.iload_n 3, 1) := by decide +kernel
theorem dX3_part_14 : decode cX3_part 14 = .ok (.iconst 0, 1) := by decide +kernel
theorem dX3_part_15 : decode cX3_part 15 = .ok (.bipush 15, 2) := by decide +kernel
theorem dX3_part_17 : decode cX3_part 17 = .ok (.invokestatic 41, 3) := by decide +kernel
theorem dX3_part_20 : decode cX3_part 20 = .ok (.iload 4, 2) := by decide +kernel
theorem dX3_part_22 : decode cX3_part 22 = .ok (.getstatic 45, 3) := by decide +kernel
theorem dX3_part_25 : decode cX3_part 25 = .ok (.iload_n 1, 1) := by decide +kernel
theorem dX3_part_26 : decode cX3_part 26 = .ok (.invokestatic 49, 3) := by decide +kernel
theorem dX3_part_29 : decode cX3_part 29 = .ok (.getstatic 53, 3) := by decide +kernel
theorem dX3_part_32 : decode cX3_part 32 = .ok (.iload_n 1, 1) := by decide +kernel
theorem dX3_part_33 : decode cX3_part 33 = .ok (.invokestatic 49, 3) := by decide +kernel
theorem dX3_part_36 : decode cX3_part 36 = .ok (.invokestatic 41, 3) := by decide +kernel
theorem dX3_part_39 : decode cX3_part 39 = .ok (.iload 5, 2) := by decide +kernel
theorem dX3_part_41 : decode cX3_part 41 = .ok (.iconst 0, 1) := by decide +kernel
theorem dX3_part_42 : decode cX3_part 42 = .ok (.getstatic 56, 3) := by decide +kernel
theorem dX3_part_45 : decode cX3_part 45 = .ok (.iload_n 1, 1) := by decide +kernel
theorem dX3_part_46 : decode cX3_part 46 = .ok (.invokestatic 49, 3) := by decide +kernel
theorem dX3_part_49 : decode cX3_part 49 = .ok (.invokestatic 41, 3) := by decide +kernel
theorem dX3_part_52 : decode cX3_part 52 = .ok (.aload_n 0, 1) := by decide +kernel
theorem dX3_part_53 : decode cX3_part 53 = .ok (.getfield 10, 3) := by decide +kernel
theorem dX3_part_56 : decode cX3_part 56 = .ok (.getfield 59, 3) := by decide +kernel
theorem dX3_part_59 : decode cX3_part 59 = .ok (.bipush 16, 2) := by decide +kernel
theorem dX3_part_61 : decode cX3_part 61 = .ok (.if_icmp .lt 13, 3) := by decide +kernel
theorem dX3_part_64 : decode cX3_part 64 = .ok (.new 62, 3) := by decide +kernel
theorem dX3_part_67 : decode cX3_part 67 = .ok (.dup, 1) := by decide +kernel
theorem dX3_part_68 : decode cX3_part 68 = .ok (.ldc 64, 2) := by decide +kernel
theorem dX3_part_70 : decode cX3_part 70 = .ok (.invokespecial 66, 3) := by decide +kernel
theorem dX3_part_73 : decode cX3_part 73 = .ok (.athrow, 1) := by decide +kernel
theorem dX3_part_74 : decode cX3_part 74 = .ok (.aload_n 0, 1) := by decide +kernel
theorem dX3_part_75 : decode cX3_part 75 = .ok (.getfield 10, 3) := by decide +kernel
theorem dX3_part_78 : decode cX3_part 78 = .ok (.iload_n 1, 1) := by decide +kernel
theorem dX3_part_79 : decode cX3_part 79 = .ok (.iload_n 2, 1) := by decide +kernel
theorem dX3_part_80 : decode cX3_part 80 = .ok (.iload_n 3, 1) := by decide +kernel
theorem dX3_part_81 : decode cX3_part 81 = .ok (.iload 4, 2) := by decide +kernel
theorem dX3_part_83 : decode cX3_part 83 = .ok (.iload 5, 2) := by decide +kernel
theorem dX3_part_85 : decode cX3_part 85 = .ok (.invokevirtual 69, 3) := by decide +kernel
theorem dX3_part_88 : decode cX3_part 88 = .ok (.ireturn, 1) := by decide +kernel
set_option maxRecDepth 20000 in
theorem ggX3_set_X3_needPart : GoodIn wsX3_set wsX3_needPart := goodIn_ca (goodIn_r _ [9, 10, 11, 2, 12, 21, 22, 23, 24, 25, 26, 27, 28, 29, 30, 31, 32] (by decide +kernel) (by decide +kernel)) (goodIn_sub (fun _ h => List.mem_cons_of_mem _ (List.mem_append_left _ (List.mem_append_right _ h))) (by decide +kernel))
set_option maxRecDepth 20000 in
theorem gX3_set_X3_needPart : GoodIn wsX3_set (wsV RX3 73 RX3 yX3_needPart wsX3_needPart) := goodIn_app (goodIn_of _ (by decide +kernel)) ggX3_set_X3_needPart
set_option maxRecDepth 20000 in
theorem ggX3_set_X3_ofKind : GoodIn wsX3_set wsX3_ofKind := goodIn_r _ [15] (by decide +kernel) (by decide +kernel)
set_option maxRecDepth 20000 in
theorem gX3_set_X3_ofKind : GoodIn wsX3_set (va_wsS RX3 49 yX3_ofKind wsX3_ofKind) := goodIn_app (goodIn_of _ (by decide +kernel)) ggX3_set_X3_ofKind
set_option maxRecDepth 20000 in
theorem ggX3_set_X3_needRange : GoodIn wsX3_set wsX3_needRange := goodIn_ca (goodIn_r _ [18, 19, 20] (by decide +kernel) (by decide +kernel)) (goodIn_sub (fun _ h => List.mem_cons_of_mem _ (List.mem_append_right _ h)) (by decide +kernel))
set_option maxRecDepth 20000 in
theorem gX3_set_X3_needRange : GoodIn wsX3_set (va_wsS RX3 41 yX3_needRange wsX3_needRange) := goodIn_app (goodIn_of _ (by decide +kernel)) ggX3_set_X3_needRange
theorem dX3_set_0 : decode cX3_set 0 = .ok (.aload_n 0, 1) := by decide +kernel
theorem dX3_set_1 : decode cX3_set 1 = .ok (.iload_n 1, 1) := by decide +kernel
theorem dX3_set_2 : decode cX3_set 2 = .ok (.invokevirtual 73, 3) := by decide +kernel
theorem dX3_set_5 : decode cX3_set 5 = .ok (.iload_n 2, 1) := by decide +kernel
theorem dX3_set_6 : decode cX3_set 6 = .ok (.iconst 0, 1) := by decide +kernel
theorem dX3_set_7 : decode cX3_set 7 = .ok (.getstatic 56, 3) := by decide +kernel
theorem dX3_set_10 : decode cX3_set 10 = .ok (.aload_n 0, 1) := by decide +kernel
theorem dX3_set_11 : decode cX3_set 11 = .ok (.getfield 10, 3) := by decide +kernel
theorem dX3_set_14 : decode cX3_set 14 = .ok (.getfield 77, 3) := by decide +kernel
theorem dX3_set_17 : decode cX3_set 17 = .ok (.iload_n 1, 1) := by decide +kernel
theorem dX3_set_18 : decode cX3_set 18 = .ok (.iaload, 1) := by decide +kernel
theorem dX3_set_19 : decode cX3_set 19 = .ok (.invokestatic 49, 3) := by decide +kernel
theorem dX3_set_22 : decode cX3_set 22 = .ok (.invokestatic 41, 3) := by decide +kernel
theorem dX3_set_25 : decode cX3_set 25 = .ok (.aload_n 0, 1) := by decide +kernel
theorem dX3_set_26 : decode cX3_set 26 = .ok (.getfield 10, 3) := by decide +kernel
theorem dX3_set_29 : decode cX3_set 29 = .ok (.getfield 80, 3) := by decide +kernel
theorem dX3_set_32 : decode cX3_set 32 = .ok (.iload_n 1, 1) := by decide +kernel
theorem dX3_set_33 : decode cX3_set 33 = .ok (.iaload, 1) := by decide +kernel
theorem dX3_set_34 : decode cX3_set 34 = .ok (.istore_n 3, 1) := by decide +kernel
theorem dX3_set_35 : decode cX3_set 35 = .ok (.aload_n 0, 1) := by decide +kernel
theorem dX3_set_36 : decode cX3_set 36 = .ok (.getfield 10, 3) := by decide +kernel
theorem dX3_set_39 : decode cX3_set 39 = .ok (.getfield 80, 3) := by decide +kernel
theorem dX3_set_42 : decode cX3_set 42 = .ok (.iload_n 1, 1) := by decide +kernel
theorem dX3_set_43 : decode cX3_set 43 = .ok (.iload_n 2, 1) := by decide +kernel
theorem dX3_set_44 : decode cX3_set 44 = .ok (.iastore, 1) := by decide +kernel
theorem dX3_set_45 : decode cX3_set 45 = .ok (.iload_n 3, 1) := by decide +kernel
theorem dX3_set_46 : decode cX3_set 46 = .ok (.ireturn, 1) := by decide +kernel
set_option maxRecDepth 20000 in
theorem ggX3_lead_X3_needOutput : GoodIn wsX3_lead wsX3_needOutput := goodIn_ca (goodIn_r _ [8, 9, 10, 11, 3, 12, 13, 14, 15, 7, 16, 17, 18, 19, 20, 39, 40, 41, 42, 43, 44, 45, 46, 47, 48, 49, 50] (by decide +kernel) (by decide +kernel)) (goodIn_sub (fun _ h => List.mem_cons_of_mem _ (List.mem_append_right _ h)) (by decide +kernel))
set_option maxRecDepth 20000 in
theorem gX3_lead_X3_needOutput : GoodIn wsX3_lead (wsV RX3 83 RX3 yX3_needOutput wsX3_needOutput) := goodIn_app (goodIn_of _ (by decide +kernel)) ggX3_lead_X3_needOutput
set_option maxRecDepth 20000 in
theorem ggX3_lead_X3_needInput : GoodIn wsX3_lead wsX3_needInput := goodIn_ca (goodIn_r _ [24, 9, 10, 25, 3, 12, 13, 14, 15, 7, 16, 17, 18, 19, 20, 39, 40, 41, 42, 43, 44, 45, 46, 47, 48, 49, 50] (by decide +kernel) (by decide +kernel)) (goodIn_sub (fun _ h => List.mem_cons_of_mem _ (List.mem_append_right _ h)) (by decide +kernel))
set_option maxRecDepth 20000 in
theorem gX3_lead_X3_needInput : GoodIn wsX3_lead (wsV RX3 87 RX3 yX3_needInput wsX3_needInput) := goodIn_app (goodIn_of _ (by decide +kernel)) ggX3_lead_X3_needInput
set_option maxRecDepth 20000 in
theorem ggX3_lead_X3_portOf : GoodIn wsX3_lead wsX3_portOf := goodIn_r _ [28] (by decide +kernel) (by decide +kernel)
set_option maxRecDepth 20000 in
theorem gX3_lead_X3_portOf : GoodIn wsX3_lead (va_wsS RX3 90 yX3_portOf wsX3_portOf) := goodIn_app (goodIn_of _ (by decide +kernel)) ggX3_lead_X3_portOf
set_option maxRecDepth 20000 in
theorem ggX3_lead_X0_isTaken : GoodIn wsX3_lead wsX0_isTaken := goodIn_r _ [33, 34, 44, 45, 46, 47, 48, 49, 50] (by decide +kernel) (by decide +kernel)
set_option maxRecDepth 20000 in
theorem gX3_lead_X0_isTaken : GoodIn wsX3_lead (wsV RX3 94 RX0 yX0_isTaken wsX0_isTaken) := goodIn_app (goodIn_of _ (by decide +kernel)) ggX3_lead_X0_isTaken
set_option maxRecDepth 20000 in
theorem ggX3_lead_X0_turn : GoodIn wsX3_lead wsX0_turn := goodIn_r _ [38, 34, 44, 45, 46, 47, 48, 49, 50] (by decide +kernel) (by decide +kernel)
set_option maxRecDepth 20000 in
theorem gX3_lead_X0_turn : GoodIn wsX3_lead (wsV RX3 100 RX0 yX0_turn wsX0_turn) := goodIn_app (goodIn_of _ (by decide +kernel)) ggX3_lead_X0_turn
theorem dX3_lead_0 : decode cX3_lead 0 = .ok (.aload_n 0, 1) := by decide +kernel
theorem dX3_lead_1 : decode cX3_lead 1 = .ok (.iload_n 1, 1) := by decide +kernel
theorem dX3_lead_2 : decode cX3_lead 2 = .ok (.iload_n 2, 1) := by decide +kernel
theorem dX3_lead_3 : decode cX3_lead 3 = .ok (.invokevirtual 83, 3) := by decide +kernel
theorem dX3_lead_6 : decode cX3_lead 6 = .ok (.aload_n 0, 1) := by decide +kernel
theorem dX3_lead_7 : decode cX3_lead 7 = .ok (.iload_n 3, 1) := by decide +kernel
theorem dX3_lead_8 : decode cX3_lead 8 = .ok (.iload 4, 2) := by decide +kernel
theorem dX3_lead_10 : decode cX3_lead 10 = .ok (.invokevirtual 87, 3) := by decide +kernel
theorem dX3_lead_13 : decode cX3_lead 13 = .ok (.iload_n 1, 1) := by decide +kernel
theorem dX3_lead_14 : decode cX3_lead 14 = .ok (.iload_n 2, 1) := by decide +kernel
theorem dX3_lead_15 : decode cX3_lead 15 = .ok (.invokestatic 90, 3) := by decide +kernel
theorem dX3_lead_18 : decode cX3_lead 18 = .ok (.istore 5, 2) := by decide +kernel
theorem dX3_lead_20 : decode cX3_lead 20 = .ok (.iload_n 3, 1) := by decide +kernel
theorem dX3_lead_21 : decode cX3_lead 21 = .ok (.iload 4, 2) := by decide +kernel
theorem dX3_lead_23 : decode cX3_lead 23 = .ok (.invokestatic 90, 3) := by decide +kernel
theorem dX3_lead_26 : decode cX3_lead 26 = .ok (.istore 6, 2) := by decide +kernel
theorem dX3_lead_28 : decode cX3_lead 28 = .ok (.aload_n 0, 1) := by decide +kernel
theorem dX3_lead_29 : decode cX3_lead 29 = .ok (.getfield 10, 3) := by decide +kernel
theorem dX3_lead_32 : decode cX3_lead 32 = .ok (.iload 5, 2) := by decide +kernel
theorem dX3_lead_34 : decode cX3_lead 34 = .ok (.iload 6, 2) := by decide +kernel
theorem dX3_lead_36 : decode cX3_lead 36 = .ok (.invokevirtual 94, 3) := by decide +kernel
theorem dX3_lead_39 : decode cX3_lead 39 = .ok (.ifCond .eq 13, 3) := by decide +kernel
theorem dX3_lead_42 : decode cX3_lead 42 = .ok (.new 62, 3) := by decide +kernel
theorem dX3_lead_45 : decode cX3_lead 45 = .ok (.dup, 1) := by decide +kernel
theorem dX3_lead_46 : decode cX3_lead 46 = .ok (.ldc 98, 2) := by decide +kernel
theorem dX3_lead_48 : decode cX3_lead 48 = .ok (.invokespecial 66, 3) := by decide +kernel
theorem dX3_lead_51 : decode cX3_lead 51 = .ok (.athrow, 1) := by decide +kernel
theorem dX3_lead_52 : decode cX3_lead 52 = .ok (.aload_n 0, 1) := by decide +kernel
theorem dX3_lead_53 : decode cX3_lead 53 = .ok (.getfield 10, 3) := by decide +kernel
theorem dX3_lead_56 : decode cX3_lead 56 = .ok (.iload 5, 2) := by decide +kernel
theorem dX3_lead_58 : decode cX3_lead 58 = .ok (.iload 6, 2) := by decide +kernel
theorem dX3_lead_60 : decode cX3_lead 60 = .ok (.invokevirtual 100, 3) := by decide +kernel
theorem dX3_lead_63 : decode cX3_lead 63 = .ok (.ireturn, 1) := by decide +kernel
set_option maxRecDepth 20000 in
theorem ggX3_cut_X3_needOutput : GoodIn wsX3_cut wsX3_needOutput := goodIn_ca (goodIn_r _ [6, 7, 8, 9, 1, 10, 11, 12, 13, 5, 14, 15, 16, 17, 18, 28, 29, 30, 31, 32, 33, 34, 35, 36, 37, 38, 39] (by decide +kernel) (by decide +kernel)) (goodIn_sub (fun _ h => List.mem_cons_of_mem _ (List.mem_append_right _ h)) (by decide +kernel))
set_option maxRecDepth 20000 in
theorem gX3_cut_X3_needOutput : GoodIn wsX3_cut (wsV RX3 83 RX3 yX3_needOutput wsX3_needOutput) := goodIn_app (goodIn_of _ (by decide +kernel)) ggX3_cut_X3_needOutput
set_option maxRecDepth 20000 in
theorem ggX3_cut_X3_portOf : GoodIn wsX3_cut wsX3_portOf := goodIn_r _ [21] (by decide +kernel) (by decide +kernel)
set_option maxRecDepth 20000 in
theorem gX3_cut_X3_portOf : GoodIn wsX3_cut (va_wsS RX3 90 yX3_portOf wsX3_portOf) := goodIn_app (goodIn_of _ (by decide +kernel)) ggX3_cut_X3_portOf
set_option maxRecDepth 20000 in
theorem ggX3_cut_X0_turn : GoodIn wsX3_cut wsX0_turn := goodIn_r _ [26, 27, 33, 34, 35, 36, 37, 38, 39] (by decide +kernel) (by decide +kernel)
set_option maxRecDepth 20000 in
theorem gX3_cut_X0_turn : GoodIn wsX3_cut (wsV RX3 100 RX0 yX0_turn wsX0_turn) := goodIn_app (goodIn_of _ (by decide +kernel)) ggX3_cut_X0_turn
theorem dX3_cut_0 : decode cX3_cut 0 = .ok (.aload_n 0, 1) := by decide +kernel
theorem dX3_cut_1 : decode cX3_cut 1 = .ok (.iload_n 1, 1) := by decide +kernel
theorem dX3_cut_2 : decode cX3_cut 2 = .ok (.iload_n 2, 1) := by decide +kernel
theorem dX3_cut_3 : decode cX3_cut 3 = .ok (.invokevirtual 83, 3) := by decide +kernel
theorem dX3_cut_6 : decode cX3_cut 6 = .ok (.aload_n 0, 1) := by decide +kernel
theorem dX3_cut_7 : decode cX3_cut 7 = .ok (.getfield 10, 3) := by decide +kernel
theorem dX3_cut_10 : decode cX3_cut 10 = .ok (.iload_n 1, 1) := by decide +kernel
theorem dX3_cut_11 : decode cX3_cut 11 = .ok (.iload_n 2, 1) := by decide +kernel
theorem dX3_cut_12 : decode cX3_cut 12 = .ok (.invokestatic 90, 3) := by decide +kernel
theorem dX3_cut_15 : decode cX3_cut 15 = .ok (.iconst (-1), 1) := by decide +kernel
theorem dX3_cut_16 : decode cX3_cut 16 = .ok (.invokevirtual 100, 3) := by decide +kernel
theorem dX3_cut_19 : decode cX3_cut 19 = .ok (.ireturn, 1) := by decide +kernel
set_option maxRecDepth 20000 in
theorem ggX3_lock_X3_needPart : GoodIn wsX3_lock wsX3_needPart := goodIn_ca (goodIn_r _ [7, 8, 9, 10, 11, 33, 34, 35, 36, 37, 45, 46, 47, 48, 49, 50, 51] (by decide +kernel) (by decide +kernel)) (goodIn_sub (fun _ h => List.mem_cons_of_mem _ (List.mem_append_left _ (List.mem_append_left _ (List.mem_append_right _ h)))) (by decide +kernel))
set_option maxRecDepth 20000 in
theorem gX3_lock_X3_needPart : GoodIn wsX3_lock (wsV RX3 73 RX3 yX3_needPart wsX3_needPart) := goodIn_app (goodIn_of _ (by decide +kernel)) ggX3_lock_X3_needPart
set_option maxRecDepth 20000 in
theorem ggX3_lock_X3_needRange : GoodIn wsX3_lock wsX3_needRange := goodIn_ca (goodIn_r _ [14, 15, 16] (by decide +kernel) (by decide +kernel)) (goodIn_sub (fun _ h => List.mem_cons_of_mem _ (List.mem_append_left _ (List.mem_append_right _ h))) (by decide +kernel))
set_option maxRecDepth 20000 in
theorem gX3_lock_X3_needRange : GoodIn wsX3_lock (va_wsS RX3 41 yX3_needRange wsX3_needRange) := goodIn_app (goodIn_of _ (by decide +kernel)) ggX3_lock_X3_needRange
set_option maxRecDepth 20000 in
theorem ggX3_lock_X3_needKind : GoodIn wsX3_lock wsX3_needKind := goodIn_ca (goodIn_r _ [20, 21, 22, 10, 23, 33, 34, 35, 36, 37, 45, 46, 47, 48, 49, 50, 51] (by decide +kernel) (by decide +kernel)) (goodIn_sub (fun _ h => List.mem_cons_of_mem _ (List.mem_append_right _ h)) (by decide +kernel))
set_option maxRecDepth 20000 in
theorem gX3_lock_X3_needKind : GoodIn wsX3_lock (wsV RX3 103 RX3 yX3_needKind wsX3_needKind) := goodIn_app (goodIn_of _ (by decide +kernel)) ggX3_lock_X3_needKind
set_option maxRecDepth 20000 in
theorem ggX3_lock_X2_begin : GoodIn wsX3_lock wsX2_begin := goodIn_r _ [28, 29, 30, 31, 32, 38, 39, 40, 41, 42, 43, 44] (by decide +kernel) (by decide +kernel)
set_option maxRecDepth 20000 in
theorem gX3_lock_X2_begin : GoodIn wsX3_lock (wsV RX3 109 RX2 yX2_begin wsX2_begin) := goodIn_app (goodIn_of _ (by decide +kernel)) ggX3_lock_X2_begin
theorem dX3_lock_0 : decode cX3_lock 0 = .ok (.aload_n 0, 1) := by decide +kernel
theorem dX3_lock_1 : decode cX3_lock 1 = .ok (.iload_n 1, 1) := by decide +kernel
theorem dX3_lock_2 : decode cX3_lock 2 = .ok (.invokevirtual 73, 3) := by decide +kernel
theorem dX3_lock_5 : decode cX3_lock 5 = .ok (.iload_n 2, 1) := by decide +kernel
theorem dX3_lock_6 : decode cX3_lock 6 = .ok (.iconst (-1), 1) := by decide +kernel
theorem dX3_lock_7 : decode cX3_lock 7 = .ok (.bipush 7, 2) := by decide +kernel
theorem dX3_lock_9 : decode cX3_lock 9 = .ok (.invokestatic 41, 3) := by decide +kernel
theorem dX3_lock_12 : decode cX3_lock 12 = .ok (.aload_n 0, 1) := by decide +kernel
theorem dX3_lock_13 : decode cX3_lock 13 = .ok (.iload_n 1, 1) := by decide +kernel
theorem dX3_lock_14 : decode cX3_lock 14 = .ok (.iconst 3, 1) := by decide +kernel
theorem dX3_lock_15 : decode cX3_lock 15 = .ok (.invokevirtual 103, 3) := by decide +kernel
theorem dX3_lock_18 : decode cX3_lock 18 = .ok (.aload_n 0, 1) := by decide +kernel
theorem dX3_lock_19 : decode cX3_lock 19 = .ok (.getfield 33, 3) := by decide +kernel
theorem dX3_lock_22 : decode cX3_lock 22 = .ok (.getfield 106, 3) := by decide +kernel
theorem dX3_lock_25 : decode cX3_lock 25 = .ok (.iload_n 1, 1) := by decide +kernel
theorem dX3_lock_26 : decode cX3_lock 26 = .ok (.iaload, 1) := by decide +kernel
theorem dX3_lock_27 : decode cX3_lock 27 = .ok (.istore_n 3, 1) := by decide +kernel
theorem dX3_lock_28 : decode cX3_lock 28 = .ok (.aload_n 0, 1) := by decide +kernel
theorem dX3_lock_29 : decode cX3_lock 29 = .ok (.getfield 33, 3) := by decide +kernel
theorem dX3_lock_32 : decode cX3_lock 32 = .ok (.iload_n 1, 1) := by decide +kernel
theorem dX3_lock_33 : decode cX3_lock 33 = .ok (.iload_n 2, 1) := by decide +kernel
theorem dX3_lock_34 : decode cX3_lock 34 = .ok (.invokevirtual 109, 3) := by decide +kernel
theorem dX3_lock_37 : decode cX3_lock 37 = .ok (.iload_n 3, 1) := by decide +kernel
theorem dX3_lock_38 : decode cX3_lock 38 = .ok (.ireturn, 1) := by decide +kernel
set_option maxRecDepth 20000 in
theorem ggX3_run_X3_needRange : GoodIn wsX3_run wsX3_needRange := goodIn_ca (goodIn_r _ [9, 10, 11] (by decide +kernel) (by decide +kernel)) (goodIn_sub (fun _ h => List.mem_cons_of_mem _ (List.mem_append_right _ h)) (by decide +kernel))
set_option maxRecDepth 20000 in
theorem gX3_run_X3_needRange : GoodIn wsX3_run (va_wsS RX3 41 yX3_needRange wsX3_needRange) := goodIn_app (goodIn_of _ (by decide +kernel)) ggX3_run_X3_needRange
set_option maxRecDepth 20000 in
theorem ggX3_run_X1_shine : GoodIn wsX3_run wsX1_shine := goodIn_r _ [16, 17, 18, 19, 20, 21, 22, 23, 24, 15, 25, 26, 27, 28, 29, 30, 31, 32, 33, 34, 35, 36, 37, 38, 39, 40, 8, 41, 42, 43, 44, 45, 46, 47, 48, 49, 50, 51, 52, 53, 54, 55, 56, 57, 58, 59, 60, 61, 62, 63, 64, 65, 66, 67, 68, 69, 70, 71, 72, 73, 74, 75, 76, 77, 78, 79, 80, 81, 82, 83, 140, 141, 142, 143, 144, 145, 146, 147, 148, 149, 150, 151, 152, 153, 154, 155, 156, 157, 158, 159] (by decide +kernel) (by decide +kernel)
set_option maxRecDepth 20000 in
theorem gX3_run_X1_shine : GoodIn wsX3_run (wsV RX3 117 RX1 yX1_shine wsX1_shine) := goodIn_app (goodIn_of _ (by decide +kernel)) ggX3_run_X1_shine
set_option maxRecDepth 20000 in
theorem ggX3_run_X1_warm : GoodIn wsX3_run wsX1_warm := goodIn_r _ [87, 17, 18, 26, 70, 88, 89, 90, 91, 92, 93, 94, 95, 96, 97, 98, 99, 100, 101, 102, 103, 104, 105, 106, 107, 108, 109, 110, 15, 111, 140, 141, 142, 143, 144, 145, 146, 147, 148, 149, 150, 151, 152, 153, 154, 155, 156, 157, 158, 159] (by decide +kernel) (by decide +kernel)
set_option maxRecDepth 20000 in
theorem gX3_run_X1_warm : GoodIn wsX3_run (wsV RX3 120 RX1 yX1_warm wsX1_warm) := goodIn_app (goodIn_of _ (by decide +kernel)) ggX3_run_X1_warm
set_option maxRecDepth 20000 in
theorem ggX3_run_X2_hunt : GoodIn wsX3_run wsX2_hunt := goodIn_r _ [116, 117, 118, 119, 120, 121, 122, 123, 124, 115, 125, 126, 127, 128, 129, 97, 98, 99, 130, 131, 132, 133, 134, 160, 161, 162, 163, 164, 165, 166, 153, 154, 155, 156, 157, 158, 159, 140, 141, 142, 143, 144, 145, 146, 147, 148, 149, 150, 151, 152] (by decide +kernel) (by decide +kernel)
set_option maxRecDepth 20000 in
theorem gX3_run_X2_hunt : GoodIn wsX3_run (wsV RX3 123 RX2 yX2_hunt wsX2_hunt) := goodIn_app (goodIn_of _ (by decide +kernel)) ggX3_run_X2_hunt
theorem dX3_run_0 : decode cX3_run 0 = .ok (.iload_n 1, 1) := by decide +kernel
theorem dX3_run_1 : decode cX3_run 1 = .ok (.iconst 1, 1) := by decide +kernel
theorem dX3_run_2 : decode cX3_run 2 = .ok (.bipush 100, 2) := by decide +kernel
theorem dX3_run_4 : decode cX3_run 4 = .ok (.invokestatic 41, 3) := by decide +kernel
theorem dX3_run_7 : decode cX3_run 7 = .ok (.iload_n 1, 1) := by decide +kernel
theorem dX3_run_8 : decode cX3_run 8 = .ok (.sipush 20000, 3) := by decide +kernel
theorem dX3_run_11 : decode cX3_run 11 = .ok (.aload_n 0, 1) := by decide +kernel
theorem dX3_run_12 : decode cX3_run 12 = .ok (.getfield 21, 3) := by decide +kernel
theorem dX3_run_15 : decode cX3_run 15 = .ok (.getfield 112, 3) := by decide +kernel
theorem dX3_run_18 : decode cX3_run 18 = .ok (.isub, 1) := by decide +kernel
theorem dX3_run_19 : decode cX3_run 19 = .ok (.if_icmp .le 13, 3) := by decide +kernel
theorem dX3_run_22 : decode cX3_run 22 = .ok (.new 62, 3) := by decide +kernel
theorem dX3_run_25 : decode cX3_run 25 = .ok (.dup, 1) := by decide +kernel
theorem dX3_run_26 : decode cX3_run 26 = .ok (.ldc 115, 2) := by decide +kernel
theorem dX3_run_28 : decode cX3_run 28 = .ok (.invokespecial 66, 3) := by decide +kernel
theorem dX3_run_31 : decode cX3_run 31 = .ok (.athrow, 1) := by decide +kernel
theorem dX3_run_32 : decode cX3_run 32 = .ok (.iconst 0, 1) := by decide +kernel
theorem dX3_run_33 : decode cX3_run 33 = .ok (.istore_n 2, 1) := by decide +kernel
theorem dX3_run_34 : decode cX3_run 34 = .ok (.iload_n 2, 1) := by decide +kernel
theorem dX3_run_35 : decode cX3_run 35 = .ok (.iload_n 1, 1) := by decide +kernel
theorem dX3_run_36 : decode cX3_run 36 = .ok (.if_icmp .ge 30, 3) := by decide +kernel
theorem dX3_run_39 : decode cX3_run 39 = .ok (.aload_n 0, 1) := by decide +kernel
theorem dX3_run_40 : decode cX3_run 40 = .ok (.getfield 21, 3) := by decide +kernel
theorem dX3_run_43 : decode cX3_run 43 = .ok (.invokevirtual 117, 3) := by decide +kernel
theorem dX3_run_46 : decode cX3_run 46 = .ok (.aload_n 0, 1) := by decide +kernel
theorem dX3_run_47 : decode cX3_run 47 = .ok (.getfield 21, 3) := by decide +kernel
theorem dX3_run_50 : decode cX3_run 50 = .ok (.invokevirtual 120, 3) := by decide +kernel
theorem dX3_run_53 : decode cX3_run 53 = .ok (.aload_n 0, 1) := by decide +kernel
theorem dX3_run_54 : decode cX3_run 54 = .ok (.getfield 33, 3) := by decide +kernel
theorem dX3_run_57 : decode cX3_run 57 = .ok (.invokevirtual 123, 3) := by decide +kernel
theorem dX3_run_60 : decode cX3_run 60 = .ok (.iinc 2 1, 3) := by decide +kernel
theorem dX3_run_63 : decode cX3_run 63 = .ok (.goto (-29), 3) := by decide +kernel
theorem dX3_run_66 : decode cX3_run 66 = .ok (.aload_n 0, 1) := by decide +kernel
theorem dX3_run_67 : decode cX3_run 67 = .ok (.getfield 21, 3) := by decide +kernel
theorem dX3_run_70 : decode cX3_run 70 = .ok (.getfield 112, 3) := by decide +kernel
theorem dX3_run_73 : decode cX3_run 73 = .ok (.ireturn, 1) := by decide +kernel
set_option maxRecDepth 20000 in
theorem ggX3_spacing_X3_needRange : GoodIn wsX3_spacing wsX3_needRange := goodIn_ca (goodIn_r _ [5, 6, 7] (by decide +kernel) (by decide +kernel)) (goodIn_sub (fun _ h => List.mem_cons_of_mem _ (List.mem_append_right _ h)) (by decide +kernel))
set_option maxRecDepth 20000 in
theorem gX3_spacing_X3_needRange : GoodIn wsX3_spacing (va_wsS RX3 41 yX3_needRange wsX3_needRange) := goodIn_app (goodIn_of _ (by decide +kernel)) ggX3_spacing_X3_needRange
theorem dX3_spacing_0 : decode cX3_spacing 0 = .ok (.iload_n 1, 1) := by decide +kernel
theorem dX3_spacing_1 : decode cX3_spacing 1 = .ok (.iconst 0, 1) := by decide +kernel
theorem dX3_spacing_2 : decode cX3_spacing 2 = .ok (.bipush 15, 2) := by decide +kernel
theorem dX3_spacing_4 : decode cX3_spacing 4 = .ok (.invokestatic 41, 3) := by decide +kernel
theorem dX3_spacing_7 : decode cX3_spacing 7 = .ok (.aload_n 0, 1) := by decide +kernel
theorem dX3_spacing_8 : decode cX3_spacing 8 = .ok (.getfield 37, 3) := by decide +kernel
theorem dX3_spacing_11 : decode cX3_spacing 11 = .ok (.istore_n 2, 1) := by decide +kernel
theorem dX3_spacing_12 : decode cX3_spacing 12 = .ok (.aload_n 0, 1) := by decide +kernel
theorem dX3_spacing_13 : decode cX3_spacing 13 = .ok (.iload_n 1, 1) := by decide +kernel
theorem dX3_spacing_14 : decode cX3_spacing 14 = .ok (.putfield 37, 3) := by decide +kernel
theorem dX3_spacing_17 : decode cX3_spacing 17 = .ok (.iload_n 2, 1) := by decide +kernel
theorem dX3_spacing_18 : decode cX3_spacing 18 = .ok (.ireturn, 1) := by decide +kernel
set_option maxRecDepth 20000 in
theorem ggX3_conflicts_X0_distance : GoodIn wsX3_conflicts wsX0_distance := goodIn_r _ [8, 9, 10, 11, 12, 13, 14, 20, 21, 22, 23, 24, 25, 26] (by decide +kernel) (by decide +kernel)
set_option maxRecDepth 20000 in
theorem gX3_conflicts_X0_distance : GoodIn wsX3_conflicts (wsV RX3 126 RX0 yX0_distance wsX0_distance) := goodIn_app (goodIn_of _ (by decide +kernel)) ggX3_conflicts_X0_distance
theorem dX3_conflicts_0 : decode cX3_conflicts 0 = .ok (.iconst 0, 1) := by decide +kernel
theorem dX3_conflicts_1 : decode cX3_conflicts 1 = .ok (.istore_n 1, 1) := by decide +kernel
theorem dX3_conflicts_2 : decode cX3_conflicts 2 = .ok (.iconst 0, 1) := by decide +kernel
theorem dX3_conflicts_3 : decode cX3_conflicts 3 = .ok (.istore_n 2, 1) := by decide +kernel
theorem dX3_conflicts_4 : decode cX3_conflicts 4 = .ok (.iload_n 2, 1) := by decide +kernel
theorem dX3_conflicts_5 : decode cX3_conflicts 5 = .ok (.aload_n 0, 1) := by decide +kernel
theorem dX3_conflicts_6 : decode cX3_conflicts 6 = .ok (.getfield 10, 3) := by decide +kernel
theorem dX3_conflicts_9 : decode cX3_conflicts 9 = .ok (.getfield 59, 3) := by decide +kernel
theorem dX3_conflicts_12 : decode cX3_conflicts 12 = .ok (.if_icmp .ge 41, 3) := by decide +kernel
theorem dX3_conflicts_15 : decode cX3_conflicts 15 = .ok (.iconst 0, 1) := by decide +kernel
theorem dX3_conflicts_16 : decode cX3_conflicts 16 = .ok (.istore_n 3, 1) := by decide +kernel
theorem dX3_conflicts_17 : decode cX3_conflicts 17 = .ok (.iload_n 3, 1) := by decide +kernel
theorem dX3_conflicts_18 : decode cX3_conflicts 18 = .ok (.iload_n 2, 1) := by decide +kernel
theorem dX3_conflicts_19 : decode cX3_conflicts 19 = .ok (.if_icmp .ge 28, 3) := by decide +kernel
theorem dX3_conflicts_22 : decode cX3_conflicts 22 = .ok (.aload_n 0, 1) := by decide +kernel
theorem dX3_conflicts_23 : decode cX3_conflicts 23 = .ok (.getfield 10, 3) := by decide +kernel
theorem dX3_conflicts_26 : decode cX3_conflicts 26 = .ok (.iload_n 2, 1) := by decide +kernel
theorem dX3_conflicts_27 : decode cX3_conflicts 27 = .ok (.iload_n 3, 1) := by decide +kernel
theorem dX3_conflicts_28 : decode cX3_conflicts 28 = .ok (.invokevirtual 126, 3) := by decide +kernel
theorem dX3_conflicts_31 : decode cX3_conflicts 31 = .ok (.aload_n 0, 1) := by decide +kernel
theorem dX3_conflicts_32 : decode cX3_conflicts 32 = .ok (.getfield 37, 3) := by decide +kernel
theorem dX3_conflicts_35 : decode cX3_conflicts 35 = .ok (.if_icmp .ge 6, 3) := by decide +kernel
theorem dX3_conflicts_38 : decode cX3_conflicts 38 = .ok (.iinc 1 1, 3) := by decide +kernel
theorem dX3_conflicts_41 : decode cX3_conflicts 41 = .ok (.iinc 3 1, 3) := by decide +kernel
theorem dX3_conflicts_44 : decode cX3_conflicts 44 = .ok (.goto (-27), 3) := by decide +kernel
theorem dX3_conflicts_47 : decode cX3_conflicts 47 = .ok (.iinc 2 1, 3) := by decide +kernel
theorem dX3_conflicts_50 : decode cX3_conflicts 50 = .ok (.goto (-46), 3) := by decide +kernel
theorem dX3_conflicts_53 : decode cX3_conflicts 53 = .ok (.iload_n 1, 1) := by decide +kernel
theorem dX3_conflicts_54 : decode cX3_conflicts 54 = .ok (.ireturn, 1) := by decide +kernel
set_option maxRecDepth 20000 in
theorem ggX3_trial_X3_needPart : GoodIn wsX3_trial wsX3_needPart := goodIn_ca (goodIn_r _ [5, 6, 7, 8, 9, 132, 133, 134, 135, 136, 137, 138, 139, 140, 141, 142, 143] (by decide +kernel) (by decide +kernel)) (goodIn_sub (fun _ h => List.mem_cons_of_mem _ (List.mem_append_left _ (List.mem_append_left _ (List.mem_append_right _ h)))) (by decide +kernel))
set_option maxRecDepth 20000 in
theorem gX3_trial_X3_needPart : GoodIn wsX3_trial (wsV RX3 73 RX3 yX3_needPart wsX3_needPart) := goodIn_app (goodIn_of _ (by decide +kernel)) ggX3_trial_X3_needPart
set_option maxRecDepth 20000 in
theorem ggX3_trial_X3_needRange : GoodIn wsX3_trial wsX3_needRange := goodIn_ca (goodIn_r _ [12, 13, 14] (by decide +kernel) (by decide +kernel)) (goodIn_sub (fun _ h => List.mem_cons_of_mem _ (List.mem_append_left _ (List.mem_append_right _ h))) (by decide +kernel))
set_option maxRecDepth 20000 in
theorem gX3_trial_X3_needRange : GoodIn wsX3_trial (va_wsS RX3 41 yX3_needRange wsX3_needRange) := goodIn_app (goodIn_of _ (by decide +kernel)) ggX3_trial_X3_needRange
set_option maxRecDepth 20000 in
theorem ggX3_trial_X3_needKind : GoodIn wsX3_trial wsX3_needKind := goodIn_ca (goodIn_r _ [18, 19, 20, 8, 21, 132, 133, 134, 135, 136, 137, 138, 139, 140, 141, 142, 143] (by decide +kernel) (by decide +kernel)) (goodIn_sub (fun _ h => List.mem_cons_of_mem _ (List.mem_append_right _ h)) (by decide +kernel))
set_option maxRecDepth 20000 in
theorem gX3_trial_X3_needKind : GoodIn wsX3_trial (wsV RX3 103 RX3 yX3_needKind wsX3_needKind) := goodIn_app (goodIn_of _ (by decide +kernel)) ggX3_trial_X3_needKind
set_option maxRecDepth 20000 in
theorem ggX3_trial_X3_tried : GoodIn wsX3_trial wsX3_tried := goodIn_r _ [25, 26, 27, 28, 29, 30, 31, 32, 33, 34, 35, 36, 37, 38, 39, 40, 41, 42, 43, 44, 45, 46, 47, 48, 49, 50, 51, 52, 53, 54, 55, 56, 57, 58, 59, 60, 61, 62, 63, 64, 65, 66, 67, 68, 69, 70, 71, 72, 73, 74, 75, 76, 77, 78, 79, 80, 81, 82, 83, 84, 85, 86, 87, 88, 89, 90, 4, 91, 92, 93, 94, 95, 96, 97, 98, 99, 100, 101, 102, 103, 104, 105, 106, 107, 108, 109, 110, 111, 112, 113, 114, 115, 116, 117, 118, 119, 120, 121, 122, 123, 124, 125, 126, 127, 128, 129, 130, 131, 132, 133, 134, 135, 136, 144, 145, 146, 147, 148, 149, 150, 151, 152, 153, 154, 155, 156, 137, 138, 139, 140, 141, 142, 143] (by decide +kernel) (by decide +kernel)
set_option maxRecDepth 20000 in
theorem gX3_trial_X3_tried : GoodIn wsX3_trial (wsV RX3 129 RX3 yX3_tried wsX3_tried) := goodIn_app (goodIn_of _ (by decide +kernel)) ggX3_trial_X3_tried
theorem dX3_trial_0 : decode cX3_trial 0 = .ok (.aload_n 0, 1) := by decide +kernel
theorem dX3_trial_1 : decode cX3_trial 1 = .ok (.iload_n 1, 1) := by decide +kernel
theorem dX3_trial_2 : decode cX3_trial 2 = .ok (.invokevirtual 73, 3) := by decide +kernel
theorem dX3_trial_5 : decode cX3_trial 5 = .ok (.iload_n 2, 1) := by decide +kernel
theorem dX3_trial_6 : decode cX3_trial 6 = .ok (.bipush (-8), 2) := by decide +kernel
theorem dX3_trial_8 : decode cX3_trial 8 = .ok (.bipush 8, 2) := by decide +kernel
theorem dX3_trial_10 : decode cX3_trial 10 = .ok (.invokestatic 41, 3) := by decide +kernel
theorem dX3_trial_13 : decode cX3_trial 13 = .ok (.iload_n 3, 1) := by decide +kernel
theorem dX3_trial_14 : decode cX3_trial 14 = .ok (.iconst 1, 1) := by decide +kernel
theorem dX3_trial_15 : decode cX3_trial 15 = .ok (.bipush 100, 2) := by decide +kernel
theorem dX3_trial_17 : decode cX3_trial 17 = .ok (.invokestatic 41, 3) := by decide +kernel
theorem dX3_trial_20 : decode cX3_trial 20 = .ok (.aload_n 0, 1) := by decide +kernel
theorem dX3_trial_21 : decode cX3_trial 21 = .ok (.iload_n 1, 1) := by decide +kernel
theorem dX3_trial_22 : decode cX3_trial 22 = .ok (.iconst 5, 1) := by decide +kernel
theorem dX3_trial_23 : decode cX3_trial 23 = .ok (.invokevirtual 103, 3) := by decide +kernel
theorem dX3_trial_26 : decode cX3_trial 26 = .ok (.aload_n 0, 1) := by decide +kernel
theorem dX3_trial_27 : decode cX3_trial 27 = .ok (.iload_n 1, 1) := by decide +kernel
theorem dX3_trial_28 : decode cX3_trial 28 = .ok (.iload_n 2, 1) := by decide +kernel
theorem dX3_trial_29 : decode cX3_trial 29 = .ok (.iload_n 3, 1) := by decide +kernel
theorem dX3_trial_30 : decode cX3_trial 30 = .ok (.invokevirtual 129, 3) := by decide +kernel
theorem dX3_trial_33 : decode cX3_trial 33 = .ok (.lreturn, 1) := by decide +kernel
set_option maxRecDepth 20000 in
theorem ggX3_yields_X3_needPart : GoodIn wsX3_yields wsX3_needPart := goodIn_ca (goodIn_r _ [7, 8, 9, 10, 11, 132, 133, 134, 135, 136, 137, 138, 139, 140, 141, 142, 143] (by decide +kernel) (by decide +kernel)) (goodIn_sub (fun _ h => List.mem_cons_of_mem _ (List.mem_append_left _ (List.mem_append_right _ h))) (by decide +kernel))
set_option maxRecDepth 20000 in
theorem gX3_yields_X3_needPart : GoodIn wsX3_yields (wsV RX3 73 RX3 yX3_needPart wsX3_needPart) := goodIn_app (goodIn_of _ (by decide +kernel)) ggX3_yields_X3_needPart
set_option maxRecDepth 20000 in
theorem ggX3_yields_X3_needRange : GoodIn wsX3_yields wsX3_needRange := goodIn_ca (goodIn_r _ [14, 1, 2] (by decide +kernel) (by decide +kernel)) (goodIn_sub (fun _ h => List.mem_cons_of_mem _ (List.mem_append_left _ (List.mem_append_left _ (List.mem_append_right _ h)))) (by decide +kernel))
set_option maxRecDepth 20000 in
theorem gX3_yields_X3_needRange : GoodIn wsX3_yields (va_wsS RX3 41 yX3_needRange wsX3_needRange) := goodIn_app (goodIn_of _ (by decide +kernel)) ggX3_yields_X3_needRange
set_option maxRecDepth 20000 in
theorem ggX3_yields_X3_needKind : GoodIn wsX3_yields wsX3_needKind := goodIn_ca (goodIn_r _ [18, 19, 20, 10, 21, 132, 133, 134, 135, 136, 137, 138, 139, 140, 141, 142, 143] (by decide +kernel) (by decide +kernel)) (goodIn_sub (fun _ h => List.mem_cons_of_mem _ (List.mem_append_right _ h)) (by decide +kernel))
set_option maxRecDepth 20000 in
theorem gX3_yields_X3_needKind : GoodIn wsX3_yields (wsV RX3 103 RX3 yX3_needKind wsX3_needKind) := goodIn_app (goodIn_of _ (by decide +kernel)) ggX3_yields_X3_needKind
set_option maxRecDepth 20000 in
theorem ggX3_yields_X3_tried : GoodIn wsX3_yields wsX3_tried := goodIn_r _ [25, 26, 27, 28, 29, 30, 31, 32, 33, 34, 35, 36, 37, 38, 39, 40, 41, 42, 43, 44, 45, 46, 47, 48, 49, 50, 51, 52, 53, 54, 55, 56, 57, 58, 59, 60, 61, 62, 63, 64, 65, 66, 67, 68, 69, 70, 71, 72, 73, 74, 75, 76, 77, 78, 79, 80, 81, 82, 83, 84, 85, 86, 87, 88, 89, 90, 6, 91, 92, 93, 94, 95, 96, 97, 98, 99, 100, 101, 102, 103, 104, 105, 106, 107, 108, 109, 110, 111, 112, 113, 114, 115, 116, 117, 118, 119, 120, 121, 122, 123, 124, 125, 126, 127, 128, 129, 130, 131, 132, 133, 134, 135, 136, 144, 145, 146, 147, 148, 149, 150, 151, 152, 153, 154, 155, 156, 137, 138, 139, 140, 141, 142, 143] (by decide +kernel) (by decide +kernel)
set_option maxRecDepth 20000 in
theorem gX3_yields_X3_tried : GoodIn wsX3_yields (wsV RX3 129 RX3 yX3_tried wsX3_tried) := goodIn_app (goodIn_of _ (by decide +kernel)) ggX3_yields_X3_tried
theorem dX3_yields_0 : decode cX3_yields 0 = .ok (.aload_n 0, 1) := by decide +kernel
theorem dX3_yields_1 : decode cX3_yields 1 = .ok (.iload_n 1, 1) := by decide +kernel
theorem dX3_yields_2 : decode cX3_yields 2 = .ok (.invokevirtual 73, 3) := by decide +kernel
theorem dX3_yields_5 : decode cX3_yields 5 = .ok (.iload_n 2, 1) := by decide +kernel
theorem dX3_yields_6 : decode cX3_yields 6 = .ok (.iconst 1, 1) := by decide +kernel
theorem dX3_yields_7 : decode cX3_yields 7 = .ok (.bipush 100, 2) := by decide +kernel
theorem dX3_yields_9 : decode cX3_yields 9 = .ok (.invokestatic 41, 3) := by decide +kernel
theorem dX3_yields_12 : decode cX3_yields 12 = .ok (.lload_n 3, 1) := by decide +kernel
theorem dX3_yields_13 : decode cX3_yields 13 = .ok (.lconst 0, 1) := by decide +kernel
theorem dX3_yields_14 : decode cX3_yields 14 = .ok (.lcmp, 1) := by decide +kernel
theorem dX3_yields_15 : decode cX3_yields 15 = .ok (.ifCond .ge 13, 3) := by decide +kernel
theorem dX3_yields_18 : decode cX3_yields 18 = .ok (.new 133, 3) := by decide +kernel
theorem dX3_yields_21 : decode cX3_yields 21 = .ok (.dup, 1) := by decide +kernel
theorem dX3_yields_22 : decode cX3_yields 22 = .ok (.ldc 135, 2) := by decide +kernel
theorem dX3_yields_24 : decode cX3_yields 24 = .ok (.invokespecial 137, 3) := by decide +kernel
theorem dX3_yields_27 : decode cX3_yields 27 = .ok (.athrow, 1) := by decide +kernel
theorem dX3_yields_28 : decode cX3_yields 28 = .ok (.aload_n 0, 1) := by decide +kernel
theorem dX3_yields_29 : decode cX3_yields 29 = .ok (.iload_n 1, 1) := by decide +kernel
theorem dX3_yields_30 : decode cX3_yields 30 = .ok (.iconst 5, 1) := by decide +kernel
theorem dX3_yields_31 : decode cX3_yields 31 = .ok (.invokevirtual 103, 3) := by decide +kernel
theorem dX3_yields_34 : decode cX3_yields 34 = .ok (.iconst 0, 1) := by decide +kernel
theorem dX3_yields_35 : decode cX3_yields 35 = .ok (.istore 5, 2) := by decide +kernel
theorem dX3_yields_37 : decode cX3_yields 37 = .ok (.iconst 0, 1) := by decide +kernel
theorem dX3_yields_38 : decode cX3_yields 38 = .ok (.istore 6, 2) := by decide +kernel
theorem dX3_yields_40 : decode cX3_yields 40 = .ok (.iload 6, 2) := by decide +kernel
theorem dX3_yields_42 : decode cX3_yields 42 = .ok (.bipush 8, 2) := by decide +kernel
theorem dX3_yields_44 : decode cX3_yields 44 = .ok (.if_icmp .ge 25, 3) := by decide +kernel
theorem dX3_yields_47 : decode cX3_yields 47 = .ok (.aload_n 0, 1) := by decide +kernel
theorem dX3_yields_48 : decode cX3_yields 48 = .ok (.iload_n 1, 1) := by decide +kernel
theorem dX3_yields_49 : decode cX3_yields 49 = .ok (.iload 6, 2) := by decide +kernel
theorem dX3_yields_51 : decode cX3_yields 51 = .ok (.iload_n 2, 1) := by decide +kernel
theorem dX3_yields_52 : decode cX3_yields 52 = .ok (.invokevirtual 129, 3) := by decide +kernel
theorem dX3_yields_55 : decode cX3_yields 55 = .ok (.lload_n 3, 1) := by decide +kernel
theorem dX3_yields_56 : decode cX3_yields 56 = .ok (.lcmp, 1) := by decide +kernel
theorem dX3_yields_57 : decode cX3_yields 57 = .ok (.ifCond .lt 6, 3) := by decide +kernel
theorem dX3_yields_60 : decode cX3_yields 60 = .ok (.iinc 5 1, 3) := by decide +kernel
theorem dX3_yields_63 : decode cX3_yields 63 = .ok (.iinc 6 1, 3) := by decide +kernel
theorem dX3_yields_66 : decode cX3_yields 66 = .ok (.goto (-26), 3) := by decide +kernel
theorem dX3_yields_69 : decode cX3_yields 69 = .ok (.iload 5, 2) := by decide +kernel
theorem dX3_yields_71 : decode cX3_yields 71 = .ok (.ireturn, 1) := by decide +kernel
set_option maxRecDepth 20000 in
theorem ggX3_ofPart_X3_needPart : GoodIn wsX3_ofPart wsX3_needPart := goodIn_ca (goodIn_r _ [13, 14, 15, 1, 16, 35, 36, 37, 38, 39, 40, 41, 42, 43, 44, 45, 46] (by decide +kernel) (by decide +kernel)) (goodIn_sub (fun _ h => List.mem_cons_of_mem _ (List.mem_append_left _ (List.mem_append_right _ h))) (by decide +kernel))
set_option maxRecDepth 20000 in
theorem gX3_ofPart_X3_needPart : GoodIn wsX3_ofPart (wsV RX3 73 RX3 yX3_needPart wsX3_needPart) := goodIn_app (goodIn_of _ (by decide +kernel)) ggX3_ofPart_X3_needPart
set_option maxRecDepth 20000 in
theorem ggX3_ofPart_X3_needRange : GoodIn wsX3_ofPart wsX3_needRange := goodIn_ca (goodIn_r _ [19, 20, 21] (by decide +kernel) (by decide +kernel)) (goodIn_sub (fun _ h => List.mem_cons_of_mem _ (List.mem_append_right _ h)) (by decide +kernel))
set_option maxRecDepth 20000 in
theorem gX3_ofPart_X3_needRange : GoodIn wsX3_ofPart (va_wsS RX3 41 yX3_needRange wsX3_needRange) := goodIn_app (goodIn_of _ (by decide +kernel)) ggX3_ofPart_X3_needRange
set_option maxRecDepth 20000 in
theorem ggX3_ofPart_X1_center : GoodIn wsX3_ofPart wsX1_center := goodIn_r _ [26, 27, 28, 29, 30, 31, 32, 33, 34, 47, 48, 49, 50, 51, 52, 53, 54, 55, 56, 57, 58, 59, 40, 41, 42, 43, 44, 45, 46] (by decide +kernel) (by decide +kernel)
set_option maxRecDepth 20000 in
theorem gX3_ofPart_X1_center : GoodIn wsX3_ofPart (wsV RX3 138 RX1 yX1_center wsX1_center) := goodIn_app (goodIn_of _ (by decide +kernel)) ggX3_ofPart_X1_center
theorem dX3_ofPart_0 : decode cX3_ofPart 0 = .ok (.aload_n 0, 1) := by decide +kernel
theorem dX3_ofPart_1 : decode cX3_ofPart 1 = .ok (.iload_n 1, 1) := by decide +kernel
theorem dX3_ofPart_2 : decode cX3_ofPart 2 = .ok (.invokevirtual 73, 3) := by decide +kernel
theorem dX3_ofPart_5 : decode cX3_ofPart 5 = .ok (.iload_n 2, 1) := by decide +kernel
theorem dX3_ofPart_6 : decode cX3_ofPart 6 = .ok (.iconst 0, 1) := by decide +kernel
theorem dX3_ofPart_7 : decode cX3_ofPart 7 = .ok (.iconst 5, 1) := by decide +kernel
theorem dX3_ofPart_8 : decode cX3_ofPart 8 = .ok (.invokestatic 41, 3) := by decide +kernel
theorem dX3_ofPart_11 : decode cX3_ofPart 11 = .ok (.aload_n 0, 1) := by decide +kernel
theorem dX3_ofPart_12 : decode cX3_ofPart 12 = .ok (.getfield 10, 3) := by decide +kernel
theorem dX3_ofPart_15 : decode cX3_ofPart 15 = .ok (.getfield 77, 3) := by decide +kernel
theorem dX3_ofPart_18 : decode cX3_ofPart 18 = .ok (.iload_n 1, 1) := by decide +kernel
theorem dX3_ofPart_19 : decode cX3_ofPart 19 = .ok (.iaload, 1) := by decide +kernel
theorem dX3_ofPart_20 : decode cX3_ofPart 20 = .ok (.iconst 3, 1) := by decide +kernel
theorem dX3_ofPart_21 : decode cX3_ofPart 21 = .ok (.if_icmp .ne 7, 3) := by decide +kernel
theorem dX3_ofPart_24 : decode cX3_ofPart 24 = .ok (.iconst 1, 1) := by decide +kernel
theorem dX3_ofPart_25 : decode cX3_ofPart 25 = .ok (.goto 4, 3) := by decide +kernel
theorem dX3_ofPart_28 : decode cX3_ofPart 28 = .ok (.iconst 0, 1) := by decide +kernel
theorem dX3_ofPart_29 : decode cX3_ofPart 29 = .ok (.istore_n 3, 1) := by decide +kernel
theorem dX3_ofPart_30 : decode cX3_ofPart 30 = .ok (.iload_n 2, 1) := by decide +kernel
theorem dX3_ofPart_31 : decode cX3_ofPart 31 = .ok (.tableswitch 98 0 4 #[33, 43, 53, 70, 88], 33) := by decide +kernel
theorem dX3_ofPart_64 : decode cX3_ofPart 64 = .ok (.aload_n 0, 1) := by decide +kernel
theorem dX3_ofPart_65 : decode cX3_ofPart 65 = .ok (.getfield 10, 3) := by decide +kernel
theorem dX3_ofPart_68 : decode cX3_ofPart 68 = .ok (.getfield 77, 3) := by decide +kernel
theorem dX3_ofPart_71 : decode cX3_ofPart 71 = .ok (.iload_n 1, 1) := by decide +kernel
theorem dX3_ofPart_72 : decode cX3_ofPart 72 = .ok (.iaload, 1) := by decide +kernel
theorem dX3_ofPart_73 : decode cX3_ofPart 73 = .ok (.ireturn, 1) := by decide +kernel
theorem dX3_ofPart_74 : decode cX3_ofPart 74 = .ok (.aload_n 0, 1) := by decide +kernel
theorem dX3_ofPart_75 : decode cX3_ofPart 75 = .ok (.getfield 10, 3) := by decide +kernel
theorem dX3_ofPart_78 : decode cX3_ofPart 78 = .ok (.getfield 80, 3) := by decide +kernel
theorem dX3_ofPart_81 : decode cX3_ofPart 81 = .ok (.iload_n 1, 1) := by decide +kernel
theorem dX3_ofPart_82 : decode cX3_ofPart 82 = .ok (.iaload, 1) := by decide +kernel
theorem dX3_ofPart_83 : decode cX3_ofPart 83 = .ok (.ireturn, 1) := by decide +kernel
theorem dX3_ofPart_84 : decode cX3_ofPart 84 = .ok (.iload_n 3, 1) := by decide +kernel
theorem dX3_ofPart_85 : decode cX3_ofPart 85 = .ok (.ifCond .eq 14, 3) := by decide +kernel
theorem dX3_ofPart_88 : decode cX3_ofPart 88 = .ok (.aload_n 0, 1) := by decide +kernel
theorem dX3_ofPart_89 : decode cX3_ofPart 89 = .ok (.getfield 21, 3) := by decide +kernel
theorem dX3_ofPart_92 : decode cX3_ofPart 92 = .ok (.iload_n 1, 1) := by decide +kernel
theorem dX3_ofPart_93 : decode cX3_ofPart 93 = .ok (.invokevirtual 138, 3) := by decide +kernel
theorem dX3_ofPart_96 : decode cX3_ofPart 96 = .ok (.goto 4, 3) := by decide +kernel
theorem dX3_ofPart_99 : decode cX3_ofPart 99 = .ok (.iconst (-1), 1) := by decide +kernel
theorem dX3_ofPart_100 : decode cX3_ofPart 100 = .ok (.ireturn, 1) := by decide +kernel
theorem dX3_ofPart_101 : decode cX3_ofPart 101 = .ok (.iload_n 3, 1) := by decide +kernel
theorem dX3_ofPart_102 : decode cX3_ofPart 102 = .ok (.ifCond .eq 15, 3) := by decide +kernel
theorem dX3_ofPart_105 : decode cX3_ofPart 105 = .ok (.aload_n 0, 1) := by decide +kernel
theorem dX3_ofPart_106 : decode cX3_ofPart 106 = .ok (.getfield 21, 3) := by decide +kernel
theorem dX3_ofPart_109 : decode cX3_ofPart 109 = .ok (.getfield 142, 3) := by decide +kernel
theorem dX3_ofPart_112 : decode cX3_ofPart 112 = .ok (.iload_n 1, 1) := by decide +kernel
theorem dX3_ofPart_113 : decode cX3_ofPart 113 = .ok (.iaload, 1) := by decide +kernel
theorem dX3_ofPart_114 : decode cX3_ofPart 114 = .ok (.goto 4, 3) := by decide +kernel
theorem dX3_ofPart_117 : decode cX3_ofPart 117 = .ok (.iconst 0, 1) := by decide +kernel
theorem dX3_ofPart_118 : decode cX3_ofPart 118 = .ok (.ireturn, 1) := by decide +kernel
theorem dX3_ofPart_119 : decode cX3_ofPart 119 = .ok (.aload_n 0, 1) := by decide +kernel
theorem dX3_ofPart_120 : decode cX3_ofPart 120 = .ok (.getfield 33, 3) := by decide +kernel
theorem dX3_ofPart_123 : decode cX3_ofPart 123 = .ok (.getfield 106, 3) := by decide +kernel
theorem dX3_ofPart_126 : decode cX3_ofPart 126 = .ok (.iload_n 1, 1) := by decide +kernel
theorem dX3_ofPart_127 : decode cX3_ofPart 127 = .ok (.iaload, 1) := by decide +kernel
theorem dX3_ofPart_128 : decode cX3_ofPart 128 = .ok (.ireturn, 1) := by decide +kernel
theorem dX3_ofPart_129 : decode cX3_ofPart 129 = .ok (.aload_n 0, 1) := by decide +kernel
theorem dX3_ofPart_130 : decode cX3_ofPart 130 = .ok (.getfield 33, 3) := by decide +kernel
theorem dX3_ofPart_133 : decode cX3_ofPart 133 = .ok (.getfield 145, 3) := by decide +kernel
theorem dX3_ofPart_136 : decode cX3_ofPart 136 = .ok (.iload_n 1, 1) := by decide +kernel
theorem dX3_ofPart_137 : decode cX3_ofPart 137 = .ok (.iaload, 1) := by decide +kernel
theorem dX3_ofPart_138 : decode cX3_ofPart 138 = .ok (.ireturn, 1) := by decide +kernel
set_option maxRecDepth 20000 in
theorem ggX3_comes_X3_needInput : GoodIn wsX3_comes wsX3_needInput := goodIn_ca (goodIn_r _ [7, 8, 9, 10, 11, 12, 13, 14, 15, 6, 16, 17, 18, 19, 20, 29, 30, 31, 32, 33, 47, 48, 49, 50, 51, 52, 53] (by decide +kernel) (by decide +kernel)) (goodIn_sub (fun _ h => List.mem_cons_of_mem _ (List.mem_append_left _ (List.mem_append_right _ h))) (by decide +kernel))
set_option maxRecDepth 20000 in
theorem gX3_comes_X3_needInput : GoodIn wsX3_comes (wsV RX3 87 RX3 yX3_needInput wsX3_needInput) := goodIn_app (goodIn_of _ (by decide +kernel)) ggX3_comes_X3_needInput
set_option maxRecDepth 20000 in
theorem ggX3_comes_X3_needRange : GoodIn wsX3_comes wsX3_needRange := goodIn_ca (goodIn_r _ [23, 24, 25] (by decide +kernel) (by decide +kernel)) (goodIn_sub (fun _ h => List.mem_cons_of_mem _ (List.mem_append_right _ h)) (by decide +kernel))
set_option maxRecDepth 20000 in
theorem gX3_comes_X3_needRange : GoodIn wsX3_comes (va_wsS RX3 41 yX3_needRange wsX3_needRange) := goodIn_app (goodIn_of _ (by decide +kernel)) ggX3_comes_X3_needRange
set_option maxRecDepth 20000 in
theorem ggX3_comes_X3_portOf : GoodIn wsX3_comes wsX3_portOf := goodIn_r _ [28] (by decide +kernel) (by decide +kernel)
set_option maxRecDepth 20000 in
theorem gX3_comes_X3_portOf : GoodIn wsX3_comes (va_wsS RX3 90 yX3_portOf wsX3_portOf) := goodIn_app (goodIn_of _ (by decide +kernel)) ggX3_comes_X3_portOf
theorem dX3_comes_0 : decode cX3_comes 0 = .ok (.aload_n 0, 1) := by decide +kernel
theorem dX3_comes_1 : decode cX3_comes 1 = .ok (.iload_n 1, 1) := by decide +kernel
theorem dX3_comes_2 : decode cX3_comes 2 = .ok (.iload_n 2, 1) := by decide +kernel
theorem dX3_comes_3 : decode cX3_comes 3 = .ok (.invokevirtual 87, 3) := by decide +kernel
theorem dX3_comes_6 : decode cX3_comes 6 = .ok (.iload_n 3, 1) := by decide +kernel
theorem dX3_comes_7 : decode cX3_comes 7 = .ok (.iconst 0, 1) := by decide +kernel
theorem dX3_comes_8 : decode cX3_comes 8 = .ok (.bipush 7, 2) := by decide +kernel
theorem dX3_comes_10 : decode cX3_comes 10 = .ok (.invokestatic 41, 3) := by decide +kernel
theorem dX3_comes_13 : decode cX3_comes 13 = .ok (.aload_n 0, 1) := by decide +kernel
theorem dX3_comes_14 : decode cX3_comes 14 = .ok (.getfield 21, 3) := by decide +kernel
theorem dX3_comes_17 : decode cX3_comes 17 = .ok (.getfield 148, 3) := by decide +kernel
theorem dX3_comes_20 : decode cX3_comes 20 = .ok (.iload_n 1, 1) := by decide +kernel
theorem dX3_comes_21 : decode cX3_comes 21 = .ok (.iload_n 2, 1) := by decide +kernel
theorem dX3_comes_22 : decode cX3_comes 22 = .ok (.invokestatic 90, 3) := by decide +kernel
theorem dX3_comes_25 : decode cX3_comes 25 = .ok (.bipush 8, 2) := by decide +kernel
theorem dX3_comes_27 : decode cX3_comes 27 = .ok (.imul, 1) := by decide +kernel
theorem dX3_comes_28 : decode cX3_comes 28 = .ok (.iload_n 3, 1) := by decide +kernel
theorem dX3_comes_29 : decode cX3_comes 29 = .ok (.iadd, 1) := by decide +kernel
theorem dX3_comes_30 : decode cX3_comes 30 = .ok (.laload, 1) := by decide +kernel
theorem dX3_comes_31 : decode cX3_comes 31 = .ok (.lreturn, 1) := by decide +kernel
set_option maxRecDepth 20000 in
theorem ggX3_seen_X3_needPart : GoodIn wsX3_seen wsX3_needPart := goodIn_ca (goodIn_r _ [7, 8, 9, 10, 11, 30, 31, 32, 33, 34, 48, 49, 50, 51, 52, 53, 54] (by decide +kernel) (by decide +kernel)) (goodIn_sub (fun _ h => List.mem_cons_of_mem _ (List.mem_append_left _ (List.mem_append_left _ (List.mem_append_right _ h)))) (by decide +kernel))
set_option maxRecDepth 20000 in
theorem gX3_seen_X3_needPart : GoodIn wsX3_seen (wsV RX3 73 RX3 yX3_needPart wsX3_needPart) := goodIn_app (goodIn_of _ (by decide +kernel)) ggX3_seen_X3_needPart
set_option maxRecDepth 20000 in
theorem ggX3_seen_X3_needRange : GoodIn wsX3_seen wsX3_needRange := goodIn_ca (goodIn_r _ [14, 15, 16] (by decide +kernel) (by decide +kernel)) (goodIn_sub (fun _ h => List.mem_cons_of_mem _ (List.mem_append_left _ (List.mem_append_right _ h))) (by decide +kernel))
set_option maxRecDepth 20000 in
theorem gX3_seen_X3_needRange : GoodIn wsX3_seen (va_wsS RX3 41 yX3_needRange wsX3_needRange) := goodIn_app (goodIn_of _ (by decide +kernel)) ggX3_seen_X3_needRange
set_option maxRecDepth 20000 in
theorem ggX3_seen_X3_needKind : GoodIn wsX3_seen wsX3_needKind := goodIn_ca (goodIn_r _ [20, 21, 22, 10, 23, 30, 31, 32, 33, 34, 48, 49, 50, 51, 52, 53, 54] (by decide +kernel) (by decide +kernel)) (goodIn_sub (fun _ h => List.mem_cons_of_mem _ (List.mem_append_right _ h)) (by decide +kernel))
set_option maxRecDepth 20000 in
theorem gX3_seen_X3_needKind : GoodIn wsX3_seen (wsV RX3 103 RX3 yX3_needKind wsX3_needKind) := goodIn_app (goodIn_of _ (by decide +kernel)) ggX3_seen_X3_needKind
set_option maxRecDepth 20000 in
theorem ggX3_seen_X1_seenInAll : GoodIn wsX3_seen wsX1_seenInAll := goodIn_r _ [28, 29, 35, 36, 37, 38, 39, 40, 41, 42, 43, 44, 45, 46, 47] (by decide +kernel) (by decide +kernel)
set_option maxRecDepth 20000 in
theorem gX3_seen_X1_seenInAll : GoodIn wsX3_seen (wsV RX3 152 RX1 yX1_seenInAll wsX1_seenInAll) := goodIn_app (goodIn_of _ (by decide +kernel)) ggX3_seen_X1_seenInAll
theorem dX3_seen_0 : decode cX3_seen 0 = .ok (.aload_n 0, 1) := by decide +kernel
theorem dX3_seen_1 : decode cX3_seen 1 = .ok (.iload_n 1, 1) := by decide +kernel
theorem dX3_seen_2 : decode cX3_seen 2 = .ok (.invokevirtual 73, 3) := by decide +kernel
theorem dX3_seen_5 : decode cX3_seen 5 = .ok (.iload_n 2, 1) := by decide +kernel
theorem dX3_seen_6 : decode cX3_seen 6 = .ok (.iconst (-1), 1) := by decide +kernel
theorem dX3_seen_7 : decode cX3_seen 7 = .ok (.bipush 7, 2) := by decide +kernel
theorem dX3_seen_9 : decode cX3_seen 9 = .ok (.invokestatic 41, 3) := by decide +kernel
theorem dX3_seen_12 : decode cX3_seen 12 = .ok (.aload_n 0, 1) := by decide +kernel
theorem dX3_seen_13 : decode cX3_seen 13 = .ok (.iload_n 1, 1) := by decide +kernel
theorem dX3_seen_14 : decode cX3_seen 14 = .ok (.iconst 5, 1) := by decide +kernel
theorem dX3_seen_15 : decode cX3_seen 15 = .ok (.invokevirtual 103, 3) := by decide +kernel
theorem dX3_seen_18 : decode cX3_seen 18 = .ok (.iload_n 2, 1) := by decide +kernel
theorem dX3_seen_19 : decode cX3_seen 19 = .ok (.iconst (-1), 1) := by decide +kernel
theorem dX3_seen_20 : decode cX3_seen 20 = .ok (.if_icmp .ne 14, 3) := by decide +kernel
theorem dX3_seen_23 : decode cX3_seen 23 = .ok (.aload_n 0, 1) := by decide +kernel
theorem dX3_seen_24 : decode cX3_seen 24 = .ok (.getfield 21, 3) := by decide +kernel
theorem dX3_seen_27 : decode cX3_seen 27 = .ok (.iload_n 1, 1) := by decide +kernel
theorem dX3_seen_28 : decode cX3_seen 28 = .ok (.invokevirtual 152, 3) := by decide +kernel
theorem dX3_seen_31 : decode cX3_seen 31 = .ok (.goto 17, 3) := by decide +kernel
theorem dX3_seen_34 : decode cX3_seen 34 = .ok (.aload_n 0, 1) := by decide +kernel
theorem dX3_seen_35 : decode cX3_seen 35 = .ok (.getfield 21, 3) := by decide +kernel
theorem dX3_seen_38 : decode cX3_seen 38 = .ok (.getfield 156, 3) := by decide +kernel
theorem dX3_seen_41 : decode cX3_seen 41 = .ok (.iload_n 1, 1) := by decide +kernel
theorem dX3_seen_42 : decode cX3_seen 42 = .ok (.bipush 8, 2) := by decide +kernel
theorem dX3_seen_44 : decode cX3_seen 44 = .ok (.imul, 1) := by decide +kernel
theorem dX3_seen_45 : decode cX3_seen 45 = .ok (.iload_n 2, 1) := by decide +kernel
theorem dX3_seen_46 : decode cX3_seen 46 = .ok (.iadd, 1) := by decide +kernel
theorem dX3_seen_47 : decode cX3_seen 47 = .ok (.laload, 1) := by decide +kernel
theorem dX3_seen_48 : decode cX3_seen 48 = .ok (.lreturn, 1) := by decide +kernel
set_option maxRecDepth 20000 in
theorem ggX3_account_X3_needRange : GoodIn wsX3_account wsX3_needRange := goodIn_ca (goodIn_r _ [9, 10, 11] (by decide +kernel) (by decide +kernel)) (goodIn_sub (fun _ h => List.mem_cons_of_mem _ (List.mem_append_right _ h)) (by decide +kernel))
set_option maxRecDepth 20000 in
theorem gX3_account_X3_needRange : GoodIn wsX3_account (va_wsS RX3 41 yX3_needRange wsX3_needRange) := goodIn_app (goodIn_of _ (by decide +kernel)) ggX3_account_X3_needRange
theorem dX3_account_0 : decode cX3_account 0 = .ok (.iload_n 1, 1) := by decide +kernel
theorem dX3_account_1 : decode cX3_account 1 = .ok (.iconst 0, 1) := by decide +kernel
theorem dX3_account_2 : decode cX3_account 2 = .ok (.iconst 4, 1) := by decide +kernel
theorem dX3_account_3 : decode cX3_account 3 = .ok (.invokestatic 41, 3) := by decide +kernel
theorem dX3_account_6 : decode cX3_account 6 = .ok (.iload_n 1, 1) := by decide +kernel
theorem dX3_account_7 : decode cX3_account 7 = .ok (.tableswitch 61 0 3 #[29, 37, 45, 53], 29) := by decide +kernel
theorem dX3_account_36 : decode cX3_account 36 = .ok (.aload_n 0, 1) := by decide +kernel
theorem dX3_account_37 : decode cX3_account 37 = .ok (.getfield 21, 3) := by decide +kernel
theorem dX3_account_40 : decode cX3_account 40 = .ok (.getfield 159, 3) := by decide +kernel
theorem dX3_account_43 : decode cX3_account 43 = .ok (.lreturn, 1) := by decide +kernel
theorem dX3_account_44 : decode cX3_account 44 = .ok (.aload_n 0, 1) := by decide +kernel
theorem dX3_account_45 : decode cX3_account 45 = .ok (.getfield 21, 3) := by decide +kernel
theorem dX3_account_48 : decode cX3_account 48 = .ok (.getfield 163, 3) := by decide +kernel
theorem dX3_account_51 : decode cX3_account 51 = .ok (.lreturn, 1) := by decide +kernel
theorem dX3_account_52 : decode cX3_account 52 = .ok (.aload_n 0, 1) := by decide +kernel
theorem dX3_account_53 : decode cX3_account 53 = .ok (.getfield 21, 3) := by decide +kernel
theorem dX3_account_56 : decode cX3_account 56 = .ok (.getfield 166, 3) := by decide +kernel
theorem dX3_account_59 : decode cX3_account 59 = .ok (.lreturn, 1) := by decide +kernel
theorem dX3_account_60 : decode cX3_account 60 = .ok (.aload_n 0, 1) := by decide +kernel
theorem dX3_account_61 : decode cX3_account 61 = .ok (.getfield 21, 3) := by decide +kernel
theorem dX3_account_64 : decode cX3_account 64 = .ok (.getfield 169, 3) := by decide +kernel
theorem dX3_account_67 : decode cX3_account 67 = .ok (.lreturn, 1) := by decide +kernel
theorem dX3_account_68 : decode cX3_account 68 = .ok (.aload_n 0, 1) := by decide +kernel
theorem dX3_account_69 : decode cX3_account 69 = .ok (.getfield 21, 3) := by decide +kernel
theorem dX3_account_72 : decode cX3_account 72 = .ok (.getfield 159, 3) := by decide +kernel
theorem dX3_account_75 : decode cX3_account 75 = .ok (.aload_n 0, 1) := by decide +kernel
theorem dX3_account_76 : decode cX3_account 76 = .ok (.getfield 21, 3) := by decide +kernel
theorem dX3_account_79 : decode cX3_account 79 = .ok (.getfield 163, 3) := by decide +kernel
theorem dX3_account_82 : decode cX3_account 82 = .ok (.lsub, 1) := by decide +kernel
theorem dX3_account_83 : decode cX3_account 83 = .ok (.aload_n 0, 1) := by decide +kernel
theorem dX3_account_84 : decode cX3_account 84 = .ok (.getfield 21, 3) := by decide +kernel
theorem dX3_account_87 : decode cX3_account 87 = .ok (.getfield 166, 3) := by decide +kernel
theorem dX3_account_90 : decode cX3_account 90 = .ok (.lsub, 1) := by decide +kernel
theorem dX3_account_91 : decode cX3_account 91 = .ok (.aload_n 0, 1) := by decide +kernel
theorem dX3_account_92 : decode cX3_account 92 = .ok (.getfield 21, 3) := by decide +kernel
theorem dX3_account_95 : decode cX3_account 95 = .ok (.getfield 169, 3) := by decide +kernel
theorem dX3_account_98 : decode cX3_account 98 = .ok (.lsub, 1) := by decide +kernel
theorem dX3_account_99 : decode cX3_account 99 = .ok (.lreturn, 1) := by decide +kernel
theorem dX3_tick_0 : decode cX3_tick 0 = .ok (.aload_n 0, 1) := by decide +kernel
theorem dX3_tick_1 : decode cX3_tick 1 = .ok (.getfield 21, 3) := by decide +kernel
theorem dX3_tick_4 : decode cX3_tick 4 = .ok (.getfield 112, 3) := by decide +kernel
theorem dX3_tick_7 : decode cX3_tick 7 = .ok (.ireturn, 1) := by decide +kernel
set_option maxRecDepth 20000 in
theorem ggX3_tried_X1_restart : GoodIn wsX3_tried wsX1_restart := goodIn_r _ [6, 7, 8, 9, 10, 11, 12, 13, 14, 15, 16, 17, 18, 19, 20, 21, 22, 23, 24, 25, 26, 27, 28, 29, 30, 31, 32, 33, 34, 35, 36, 37, 38, 39, 40, 41, 42, 43, 44, 113, 114, 115, 116, 117, 118, 119, 120, 121, 122, 123, 124, 125, 126, 127, 128, 129, 130, 131, 132] (by decide +kernel) (by decide +kernel)
set_option maxRecDepth 20000 in
theorem gX3_tried_X1_restart : GoodIn wsX3_tried (wsV RX3 172 RX1 yX1_restart wsX1_restart) := goodIn_app (goodIn_of _ (by decide +kernel)) ggX3_tried_X1_restart
set_option maxRecDepth 20000 in
theorem ggX3_tried_X1_shine : GoodIn wsX3_tried wsX1_shine := goodIn_r _ [48, 16, 17, 7, 49, 11, 50, 51, 52, 5, 53, 19, 54, 55, 56, 57, 58, 12, 59, 60, 61, 62, 63, 64, 14, 65, 66, 67, 68, 69, 70, 71, 72, 13, 8, 73, 74, 75, 76, 77, 78, 79, 80, 81, 82, 83, 84, 85, 86, 87, 88, 89, 90, 91, 92, 10, 18, 93, 94, 95, 96, 97, 98, 99, 100, 101, 102, 103, 15, 9, 113, 114, 115, 116, 117, 118, 119, 120, 121, 122, 123, 124, 125, 126, 127, 128, 129, 130, 131, 132] (by decide +kernel) (by decide +kernel)
set_option maxRecDepth 20000 in
theorem gX3_tried_X1_shine : GoodIn wsX3_tried (wsV RX3 117 RX1 yX1_shine wsX1_shine) := goodIn_app (goodIn_of _ (by decide +kernel)) ggX3_tried_X1_shine
set_option maxRecDepth 20000 in
theorem ggX3_tried_X1_seenInAll : GoodIn wsX3_tried wsX1_seenInAll := goodIn_r _ [107, 9, 113, 114, 115, 116, 117, 118, 119, 120, 121, 122, 123, 124, 125] (by decide +kernel) (by decide +kernel)
set_option maxRecDepth 20000 in
theorem gX3_tried_X1_seenInAll : GoodIn wsX3_tried (wsV RX3 152 RX1 yX1_seenInAll wsX1_seenInAll) := goodIn_app (goodIn_of _ (by decide +kernel)) ggX3_tried_X1_seenInAll
theorem dX3_tried_0 : decode cX3_tried 0 = .ok (.aload_n 0, 1) := by decide +kernel
theorem dX3_tried_1 : decode cX3_tried 1 = .ok (.getfield 25, 3) := by decide +kernel
theorem dX3_tried_4 : decode cX3_tried 4 = .ok (.iload_n 2, 1) := by decide +kernel
theorem dX3_tried_5 : decode cX3_tried 5 = .ok (.invokevirtual 172, 3) := by decide +kernel
theorem dX3_tried_8 : decode cX3_tried 8 = .ok (.iconst 0, 1) := by decide +kernel
theorem dX3_tried_9 : decode cX3_tried 9 = .ok (.istore 4, 2) := by decide +kernel
theorem dX3_tried_11 : decode cX3_tried 11 = .ok (.iload 4, 2) := by decide +kernel
theorem dX3_tried_13 : decode cX3_tried 13 = .ok (.iload_n 3, 1) := by decide +kernel
theorem dX3_tried_14 : decode cX3_tried 14 = .ok (.if_icmp .ge 16, 3) := by decide +kernel
theorem dX3_tried_17 : decode cX3_tried 17 = .ok (.aload_n 0, 1) := by decide +kernel
theorem dX3_tried_18 : decode cX3_tried 18 = .ok (.getfield 25, 3) := by decide +kernel
theorem dX3_tried_21 : decode cX3_tried 21 = .ok (.invokevirtual 117, 3) := by decide +kernel
theorem dX3_tried_24 : decode cX3_tried 24 = .ok (.iinc 4 1, 3) := by decide +kernel
theorem dX3_tried_27 : decode cX3_tried 27 = .ok (.goto (-16), 3) := by decide +kernel
theorem dX3_tried_30 : decode cX3_tried 30 = .ok (.aload_n 0, 1) := by decide +kernel
theorem dX3_tried_31 : decode cX3_tried 31 = .ok (.getfield 25, 3) := by decide +kernel
theorem dX3_tried_34 : decode cX3_tried 34 = .ok (.iload_n 1, 1) := by decide +kernel
theorem dX3_tried_35 : decode cX3_tried 35 = .ok (.invokevirtual 152, 3) := by decide +kernel
theorem dX3_tried_38 : decode cX3_tried 38 = .ok (.lreturn, 1) := by decide +kernel
theorem dX3_needPart_0 : decode cX3_needPart 0 = .ok (.iload_n 1, 1) := by decide +kernel
theorem dX3_needPart_1 : decode cX3_needPart 1 = .ok (.ifCond .lt 14, 3) := by decide +kernel
theorem dX3_needPart_4 : decode cX3_needPart 4 = .ok (.iload_n 1, 1) := by decide +kernel
theorem dX3_needPart_5 : decode cX3_needPart 5 = .ok (.aload_n 0, 1) := by decide +kernel
theorem dX3_needPart_6 : decode cX3_needPart 6 = .ok (.getfield 10, 3) := by decide +kernel
theorem dX3_needPart_9 : decode cX3_needPart 9 = .ok (.getfield 59, 3) := by decide +kernel
theorem dX3_needPart_12 : decode cX3_needPart 12 = .ok (.if_icmp .lt 13, 3) := by decide +kernel
theorem dX3_needPart_15 : decode cX3_needPart 15 = .ok (.new 175, 3) := by decide +kernel
theorem dX3_needPart_18 : decode cX3_needPart 18 = .ok (.dup, 1) := by decide +kernel
theorem dX3_needPart_19 : decode cX3_needPart 19 = .ok (.ldc 177, 2) := by decide +kernel
theorem dX3_needPart_21 : decode cX3_needPart 21 = .ok (.invokespecial 179, 3) := by decide +kernel
theorem dX3_needPart_24 : decode cX3_needPart 24 = .ok (.athrow, 1) := by decide +kernel
theorem dX3_needPart_25 : decode cX3_needPart 25 = .ok (.return_, 1) := by decide +kernel
set_option maxRecDepth 20000 in
theorem ggX3_needOutput_X3_needPart : GoodIn wsX3_needOutput wsX3_needPart := goodIn_ca (goodIn_r _ [10, 1, 2, 4, 11, 15, 16, 17, 18, 19, 20, 21, 22, 23, 24, 25, 26] (by decide +kernel) (by decide +kernel)) (goodIn_sub (fun _ h => List.mem_cons_of_mem _ (List.mem_append_right _ h)) (by decide +kernel))
set_option maxRecDepth 20000 in
theorem gX3_needOutput_X3_needPart : GoodIn wsX3_needOutput (wsV RX3 73 RX3 yX3_needPart wsX3_needPart) := goodIn_app (goodIn_of _ (by decide +kernel)) ggX3_needOutput_X3_needPart
set_option maxRecDepth 20000 in
theorem ggX3_needOutput_X3_ofKind : GoodIn wsX3_needOutput wsX3_ofKind := goodIn_r _ [14] (by decide +kernel) (by decide +kernel)
set_option maxRecDepth 20000 in
theorem gX3_needOutput_X3_ofKind : GoodIn wsX3_needOutput (va_wsS RX3 49 yX3_ofKind wsX3_ofKind) := goodIn_app (goodIn_of _ (by decide +kernel)) ggX3_needOutput_X3_ofKind
theorem dX3_needOutput_0 : decode cX3_needOutput 0 = .ok (.aload_n 0, 1) := by decide +kernel
theorem dX3_needOutput_1 : decode cX3_needOutput 1 = .ok (.iload_n 1, 1) := by decide +kernel
theorem dX3_needOutput_2 : decode cX3_needOutput 2 = .ok (.invokevirtual 73, 3) := by decide +kernel
theorem dX3_needOutput_5 : decode cX3_needOutput 5 = .ok (.iload_n 2, 1) := by decide +kernel
theorem dX3_needOutput_6 : decode cX3_needOutput 6 = .ok (.ifCond .lt 22, 3) := by decide +kernel
theorem dX3_needOutput_9 : decode cX3_needOutput 9 = .ok (.iload_n 2, 1) := by decide +kernel
theorem dX3_needOutput_10 : decode cX3_needOutput 10 = .ok (.getstatic 180, 3) := by decide +kernel
theorem dX3_needOutput_13 : decode cX3_needOutput 13 = .ok (.aload_n 0, 1) := by decide +kernel
theorem dX3_needOutput_14 : decode cX3_needOutput 14 = .ok (.getfield 10, 3) := by decide +kernel
theorem dX3_needOutput_17 : decode cX3_needOutput 17 = .ok (.getfield 77, 3) := by decide +kernel
theorem dX3_needOutput_20 : decode cX3_needOutput 20 = .ok (.iload_n 1, 1) := by decide +kernel
theorem dX3_needOutput_21 : decode cX3_needOutput 21 = .ok (.iaload, 1) := by decide +kernel
theorem dX3_needOutput_22 : decode cX3_needOutput 22 = .ok (.invokestatic 49, 3) := by decide +kernel
theorem dX3_needOutput_25 : decode cX3_needOutput 25 = .ok (.if_icmp .lt 13, 3) := by decide +kernel
theorem dX3_needOutput_28 : decode cX3_needOutput 28 = .ok (.new 175, 3) := by decide +kernel
theorem dX3_needOutput_31 : decode cX3_needOutput 31 = .ok (.dup, 1) := by decide +kernel
theorem dX3_needOutput_32 : decode cX3_needOutput 32 = .ok (.ldc 183, 2) := by decide +kernel
theorem dX3_needOutput_34 : decode cX3_needOutput 34 = .ok (.invokespecial 179, 3) := by decide +kernel
theorem dX3_needOutput_37 : decode cX3_needOutput 37 = .ok (.athrow, 1) := by decide +kernel
theorem dX3_needOutput_38 : decode cX3_needOutput 38 = .ok (.return_, 1) := by decide +kernel
set_option maxRecDepth 20000 in
theorem ggX3_needInput_X3_needPart : GoodIn wsX3_needInput wsX3_needPart := goodIn_ca (goodIn_r _ [10, 1, 2, 4, 11, 15, 16, 17, 18, 19, 20, 21, 22, 23, 24, 25, 26] (by decide +kernel) (by decide +kernel)) (goodIn_sub (fun _ h => List.mem_cons_of_mem _ (List.mem_append_right _ h)) (by decide +kernel))
set_option maxRecDepth 20000 in
theorem gX3_needInput_X3_needPart : GoodIn wsX3_needInput (wsV RX3 73 RX3 yX3_needPart wsX3_needPart) := goodIn_app (goodIn_of _ (by decide +kernel)) ggX3_needInput_X3_needPart
set_option maxRecDepth 20000 in
theorem ggX3_needInput_X3_ofKind : GoodIn wsX3_needInput wsX3_ofKind := goodIn_r _ [14] (by decide +kernel) (by decide +kernel)
set_option maxRecDepth 20000 in
theorem gX3_needInput_X3_ofKind : GoodIn wsX3_needInput (va_wsS RX3 49 yX3_ofKind wsX3_ofKind) := goodIn_app (goodIn_of _ (by decide +kernel)) ggX3_needInput_X3_ofKind
theorem dX3_needInput_0 : decode cX3_needInput 0 = .ok (.aload_n 0, 1) := by decide +kernel
theorem dX3_needInput_1 : decode cX3_needInput 1 = .ok (.iload_n 1, 1) := by decide +kernel
theorem dX3_needInput_2 : decode cX3_needInput 2 = .ok (.invokevirtual 73, 3) := by decide +kernel
theorem dX3_needInput_5 : decode cX3_needInput 5 = .ok (.iload_n 2, 1) := by decide +kernel
theorem dX3_needInput_6 : decode cX3_needInput 6 = .ok (.ifCond .lt 22, 3) := by decide +kernel
theorem dX3_needInput_9 : decode cX3_needInput 9 = .ok (.iload_n 2, 1) := by decide +kernel
theorem dX3_needInput_10 : decode cX3_needInput 10 = .ok (.getstatic 185, 3) := by decide +kernel
theorem dX3_needInput_13 : decode cX3_needInput 13 = .ok (.aload_n 0, 1) := by decide +kernel
theorem dX3_needInput_14 : decode cX3_needInput 14 = .ok (.getfield 10, 3) := by decide +kernel
theorem dX3_needInput_17 : decode cX3_needInput 17 = .ok (.getfield 77, 3) := by decide +kernel
theorem dX3_needInput_20 : decode cX3_needInput 20 = .ok (.iload_n 1, 1) := by decide +kernel
theorem dX3_needInput_21 : decode cX3_needInput 21 = .ok (.iaload, 1) := by decide +kernel
theorem dX3_needInput_22 : decode cX3_needInput 22 = .ok (.invokestatic 49, 3) := by decide +kernel
theorem dX3_needInput_25 : decode cX3_needInput 25 = .ok (.if_icmp .lt 13, 3) := by decide +kernel
theorem dX3_needInput_28 : decode cX3_needInput 28 = .ok (.new 175, 3) := by decide +kernel
theorem dX3_needInput_31 : decode cX3_needInput 31 = .ok (.dup, 1) := by decide +kernel
theorem dX3_needInput_32 : decode cX3_needInput 32 = .ok (.ldc 188, 2) := by decide +kernel
theorem dX3_needInput_34 : decode cX3_needInput 34 = .ok (.invokespecial 179, 3) := by decide +kernel
theorem dX3_needInput_37 : decode cX3_needInput 37 = .ok (.athrow, 1) := by decide +kernel
theorem dX3_needInput_38 : decode cX3_needInput 38 = .ok (.return_, 1) := by decide +kernel
theorem dX3_needKind_0 : decode cX3_needKind 0 = .ok (.aload_n 0, 1) := by decide +kernel
theorem dX3_needKind_1 : decode cX3_needKind 1 = .ok (.getfield 10, 3) := by decide +kernel
theorem dX3_needKind_4 : decode cX3_needKind 4 = .ok (.getfield 77, 3) := by decide +kernel
theorem dX3_needKind_7 : decode cX3_needKind 7 = .ok (.iload_n 1, 1) := by decide +kernel
theorem dX3_needKind_8 : decode cX3_needKind 8 = .ok (.iaload, 1) := by decide +kernel
theorem dX3_needKind_9 : decode cX3_needKind 9 = .ok (.iload_n 2, 1) := by decide +kernel
theorem dX3_needKind_10 : decode cX3_needKind 10 = .ok (.if_icmp .eq 13, 3) := by decide +kernel
theorem dX3_needKind_13 : decode cX3_needKind 13 = .ok (.new 62, 3) := by decide +kernel
theorem dX3_needKind_16 : decode cX3_needKind 16 = .ok (.dup, 1) := by decide +kernel
theorem dX3_needKind_17 : decode cX3_needKind 17 = .ok (.ldc 190, 2) := by decide +kernel
theorem dX3_needKind_19 : decode cX3_needKind 19 = .ok (.invokespecial 66, 3) := by decide +kernel
theorem dX3_needKind_22 : decode cX3_needKind 22 = .ok (.athrow, 1) := by decide +kernel
theorem dX3_needKind_23 : decode cX3_needKind 23 = .ok (.return_, 1) := by decide +kernel
theorem dX3_needRange_0 : decode cX3_needRange 0 = .ok (.iload_n 0, 1) := by decide +kernel
theorem dX3_needRange_1 : decode cX3_needRange 1 = .ok (.iload_n 1, 1) := by decide +kernel
theorem dX3_needRange_2 : decode cX3_needRange 2 = .ok (.if_icmp .lt 8, 3) := by decide +kernel
theorem dX3_needRange_5 : decode cX3_needRange 5 = .ok (.iload_n 0, 1) := by decide +kernel
theorem dX3_needRange_6 : decode cX3_needRange 6 = .ok (.iload_n 2, 1) := by decide +kernel
theorem dX3_needRange_7 : decode cX3_needRange 7 = .ok (.if_icmp .le 13, 3) := by decide +kernel
theorem dX3_needRange_10 : decode cX3_needRange 10 = .ok (.new 133, 3) := by decide +kernel
theorem dX3_needRange_13 : decode cX3_needRange 13 = .ok (.dup, 1) := by decide +kernel
theorem dX3_needRange_14 : decode cX3_needRange 14 = .ok (.ldc 192, 2) := by decide +kernel
theorem dX3_needRange_16 : decode cX3_needRange 16 = .ok (.invokespecial 137, 3) := by decide +kernel
theorem dX3_needRange_19 : decode cX3_needRange 19 = .ok (.athrow, 1) := by decide +kernel
theorem dX3_needRange_20 : decode cX3_needRange 20 = .ok (.return_, 1) := by decide +kernel
theorem dX3_ofKind_0 : decode cX3_ofKind 0 = .ok (.iload_n 1, 1) := by decide +kernel
theorem dX3_ofKind_1 : decode cX3_ofKind 1 = .ok (.ifCond .lt 15, 3) := by decide +kernel
theorem dX3_ofKind_4 : decode cX3_ofKind 4 = .ok (.iload_n 1, 1) := by decide +kernel
theorem dX3_ofKind_5 : decode cX3_ofKind 5 = .ok (.aload_n 0, 1) := by decide +kernel
theorem dX3_ofKind_6 : decode cX3_ofKind 6 = .ok (.arraylength, 1) := by decide +kernel
theorem dX3_ofKind_7 : decode cX3_ofKind 7 = .ok (.if_icmp .ge 9, 3) := by decide +kernel
theorem dX3_ofKind_10 : decode cX3_ofKind 10 = .ok (.aload_n 0, 1) := by decide +kernel
theorem dX3_ofKind_11 : decode cX3_ofKind 11 = .ok (.iload_n 1, 1) := by decide +kernel
theorem dX3_ofKind_12 : decode cX3_ofKind 12 = .ok (.iaload, 1) := by decide +kernel
theorem dX3_ofKind_13 : decode cX3_ofKind 13 = .ok (.goto 4, 3) := by decide +kernel
theorem dX3_ofKind_16 : decode cX3_ofKind 16 = .ok (.iconst 0, 1) := by decide +kernel
theorem dX3_ofKind_17 : decode cX3_ofKind 17 = .ok (.ireturn, 1) := by decide +kernel
theorem dX3_portOf_0 : decode cX3_portOf 0 = .ok (.iload_n 0, 1) := by decide +kernel
theorem dX3_portOf_1 : decode cX3_portOf 1 = .ok (.iconst 2, 1) := by decide +kernel
theorem dX3_portOf_2 : decode cX3_portOf 2 = .ok (.imul, 1) := by decide +kernel
theorem dX3_portOf_3 : decode cX3_portOf 3 = .ok (.iload_n 1, 1) := by decide +kernel
theorem dX3_portOf_4 : decode cX3_portOf 4 = .ok (.iadd, 1) := by decide +kernel
theorem dX3_portOf_5 : decode cX3_portOf 5 = .ok (.ireturn, 1) := by decide +kernel
theorem dJ9_floorMod_7cf53_0 : decode cJ9_floorMod_7cf53 0 = .ok (.iload_n 0, 1) := by decide +kernel
theorem dJ9_floorMod_7cf53_1 : decode cJ9_floorMod_7cf53 1 = .ok (.iload_n 1, 1) := by decide +kernel
theorem dJ9_floorMod_7cf53_2 : decode cJ9_floorMod_7cf53 2 = .ok (.irem, 1) := by decide +kernel
theorem dJ9_floorMod_7cf53_3 : decode cJ9_floorMod_7cf53 3 = .ok (.istore_n 2, 1) := by decide +kernel
theorem dJ9_floorMod_7cf53_4 : decode cJ9_floorMod_7cf53 4 = .ok (.iload_n 0, 1) := by decide +kernel
theorem dJ9_floorMod_7cf53_5 : decode cJ9_floorMod_7cf53 5 = .ok (.iload_n 1, 1) := by decide +kernel
theorem dJ9_floorMod_7cf53_6 : decode cJ9_floorMod_7cf53 6 = .ok (.ixor, 1) := by decide +kernel
theorem dJ9_floorMod_7cf53_7 : decode cJ9_floorMod_7cf53 7 = .ok (.ifCond .ge 11, 3) := by decide +kernel
theorem dJ9_floorMod_7cf53_10 : decode cJ9_floorMod_7cf53 10 = .ok (.iload_n 2, 1) := by decide +kernel
theorem dJ9_floorMod_7cf53_11 : decode cJ9_floorMod_7cf53 11 = .ok (.ifCond .eq 7, 3) := by decide +kernel
theorem dJ9_floorMod_7cf53_14 : decode cJ9_floorMod_7cf53 14 = .ok (.iload_n 2, 1) := by decide +kernel
theorem dJ9_floorMod_7cf53_15 : decode cJ9_floorMod_7cf53 15 = .ok (.iload_n 1, 1) := by decide +kernel
theorem dJ9_floorMod_7cf53_16 : decode cJ9_floorMod_7cf53 16 = .ok (.iadd, 1) := by decide +kernel
theorem dJ9_floorMod_7cf53_17 : decode cJ9_floorMod_7cf53 17 = .ok (.ireturn, 1) := by decide +kernel
theorem dJ9_floorMod_7cf53_18 : decode cJ9_floorMod_7cf53 18 = .ok (.iload_n 2, 1) := by decide +kernel
theorem dJ9_floorMod_7cf53_19 : decode cJ9_floorMod_7cf53 19 = .ok (.ireturn, 1) := by decide +kernel
theorem dJ9_abs_0f7a4_0 : decode cJ9_abs_0f7a4 0 = .ok (.iload_n 0, 1) := by decide +kernel
theorem dJ9_abs_0f7a4_1 : decode cJ9_abs_0f7a4 1 = .ok (.ifCond .ge 8, 3) := by decide +kernel
theorem dJ9_abs_0f7a4_4 : decode cJ9_abs_0f7a4 4 = .ok (.iload_n 0, 1) := by decide +kernel
theorem dJ9_abs_0f7a4_5 : decode cJ9_abs_0f7a4 5 = .ok (.ineg, 1) := by decide +kernel
theorem dJ9_abs_0f7a4_6 : decode cJ9_abs_0f7a4 6 = .ok (.goto 4, 3) := by decide +kernel
theorem dJ9_abs_0f7a4_9 : decode cJ9_abs_0f7a4 9 = .ok (.iload_n 0, 1) := by decide +kernel
theorem dJ9_abs_0f7a4_10 : decode cJ9_abs_0f7a4 10 = .ok (.ireturn, 1) := by decide +kernel
theorem dJ9_max_7cf53_0 : decode cJ9_max_7cf53 0 = .ok (.iload_n 0, 1) := by decide +kernel
theorem dJ9_max_7cf53_1 : decode cJ9_max_7cf53 1 = .ok (.iload_n 1, 1) := by decide +kernel
theorem dJ9_max_7cf53_2 : decode cJ9_max_7cf53 2 = .ok (.if_icmp .lt 7, 3) := by decide +kernel
theorem dJ9_max_7cf53_5 : decode cJ9_max_7cf53 5 = .ok (.iload_n 0, 1) := by decide +kernel
theorem dJ9_max_7cf53_6 : decode cJ9_max_7cf53 6 = .ok (.goto 4, 3) := by decide +kernel
theorem dJ9_max_7cf53_9 : decode cJ9_max_7cf53 9 = .ok (.iload_n 1, 1) := by decide +kernel
theorem dJ9_max_7cf53_10 : decode cJ9_max_7cf53 10 = .ok (.ireturn, 1) := by decide +kernel
theorem dJ9_min_7cf53_0 : decode cJ9_min_7cf53 0 = .ok (.iload_n 0, 1) := by decide +kernel
theorem dJ9_min_7cf53_1 : decode cJ9_min_7cf53 1 = .ok (.iload_n 1, 1) := by decide +kernel
theorem dJ9_min_7cf53_2 : decode cJ9_min_7cf53 2 = .ok (.if_icmp .gt 7, 3) := by decide +kernel
theorem dJ9_min_7cf53_5 : decode cJ9_min_7cf53 5 = .ok (.iload_n 0, 1) := by decide +kernel
theorem dJ9_min_7cf53_6 : decode cJ9_min_7cf53 6 = .ok (.goto 4, 3) := by decide +kernel
theorem dJ9_min_7cf53_9 : decode cJ9_min_7cf53 9 = .ok (.iload_n 1, 1) := by decide +kernel
theorem dJ9_min_7cf53_10 : decode cJ9_min_7cf53 10 = .ok (.ireturn, 1) := by decide +kernel
theorem dJ7_fill_d0a16_0 : decode cJ7_fill_d0a16 0 = .ok (.iconst 0, 1) := by decide +kernel
theorem dJ7_fill_d0a16_1 : decode cJ7_fill_d0a16 1 = .ok (.istore_n 3, 1) := by decide +kernel
theorem dJ7_fill_d0a16_2 : decode cJ7_fill_d0a16 2 = .ok (.aload_n 0, 1) := by decide +kernel
theorem dJ7_fill_d0a16_3 : decode cJ7_fill_d0a16 3 = .ok (.arraylength, 1) := by decide +kernel
theorem dJ7_fill_d0a16_4 : decode cJ7_fill_d0a16 4 = .ok (.istore 4, 2) := by decide +kernel
theorem dJ7_fill_d0a16_6 : decode cJ7_fill_d0a16 6 = .ok (.iload_n 3, 1) := by decide +kernel
theorem dJ7_fill_d0a16_7 : decode cJ7_fill_d0a16 7 = .ok (.iload 4, 2) := by decide +kernel
theorem dJ7_fill_d0a16_9 : decode cJ7_fill_d0a16 9 = .ok (.if_icmp .ge 13, 3) := by decide +kernel
theorem dJ7_fill_d0a16_12 : decode cJ7_fill_d0a16 12 = .ok (.aload_n 0, 1) := by decide +kernel
theorem dJ7_fill_d0a16_13 : decode cJ7_fill_d0a16 13 = .ok (.iload_n 3, 1) := by decide +kernel
theorem dJ7_fill_d0a16_14 : decode cJ7_fill_d0a16 14 = .ok (.lload_n 1, 1) := by decide +kernel
theorem dJ7_fill_d0a16_15 : decode cJ7_fill_d0a16 15 = .ok (.lastore, 1) := by decide +kernel
theorem dJ7_fill_d0a16_16 : decode cJ7_fill_d0a16 16 = .ok (.iinc 3 1, 3) := by decide +kernel
theorem dJ7_fill_d0a16_19 : decode cJ7_fill_d0a16 19 = .ok (.goto (-13), 3) := by decide +kernel
theorem dJ7_fill_d0a16_22 : decode cJ7_fill_d0a16 22 = .ok (.return_, 1) := by decide +kernel
theorem dJ7_fill_53178_0 : decode cJ7_fill_53178 0 = .ok (.iconst 0, 1) := by decide +kernel
theorem dJ7_fill_53178_1 : decode cJ7_fill_53178 1 = .ok (.istore_n 2, 1) := by decide +kernel
theorem dJ7_fill_53178_2 : decode cJ7_fill_53178 2 = .ok (.aload_n 0, 1) := by decide +kernel
theorem dJ7_fill_53178_3 : decode cJ7_fill_53178 3 = .ok (.arraylength, 1) := by decide +kernel
theorem dJ7_fill_53178_4 : decode cJ7_fill_53178 4 = .ok (.istore_n 3, 1) := by decide +kernel
theorem dJ7_fill_53178_5 : decode cJ7_fill_53178 5 = .ok (.iload_n 2, 1) := by decide +kernel
theorem dJ7_fill_53178_6 : decode cJ7_fill_53178 6 = .ok (.iload_n 3, 1) := by decide +kernel
theorem dJ7_fill_53178_7 : decode cJ7_fill_53178 7 = .ok (.if_icmp .ge 13, 3) := by decide +kernel
theorem dJ7_fill_53178_10 : decode cJ7_fill_53178 10 = .ok (.aload_n 0, 1) := by decide +kernel
theorem dJ7_fill_53178_11 : decode cJ7_fill_53178 11 = .ok (.iload_n 2, 1) := by decide +kernel
theorem dJ7_fill_53178_12 : decode cJ7_fill_53178 12 = .ok (.iload_n 1, 1) := by decide +kernel
theorem dJ7_fill_53178_13 : decode cJ7_fill_53178 13 = .ok (.iastore, 1) := by decide +kernel
theorem dJ7_fill_53178_14 : decode cJ7_fill_53178 14 = .ok (.iinc 2 1, 3) := by decide +kernel
theorem dJ7_fill_53178_17 : decode cJ7_fill_53178 17 = .ok (.goto (-12), 3) := by decide +kernel
theorem dJ7_fill_53178_20 : decode cJ7_fill_53178 20 = .ok (.return_, 1) := by decide +kernel
theorem dL_drawn_0 : decode cL_drawn 0 = .ok (.iload_n 1, 1) := by decide +kernel
theorem dL_drawn_1 : decode cL_drawn 1 = .ok (.aload_n 0, 1) := by decide +kernel
theorem dL_drawn_2 : decode cL_drawn 2 = .ok (.arraylength, 1) := by decide +kernel
theorem dL_drawn_3 : decode cL_drawn 3 = .ok (.if_icmp .ge 9, 3) := by decide +kernel
theorem dL_drawn_6 : decode cL_drawn 6 = .ok (.aload_n 0, 1) := by decide +kernel
theorem dL_drawn_7 : decode cL_drawn 7 = .ok (.iload_n 1, 1) := by decide +kernel
theorem dL_drawn_8 : decode cL_drawn 8 = .ok (.iaload, 1) := by decide +kernel
theorem dL_drawn_9 : decode cL_drawn 9 = .ok (.goto 11, 3) := by decide +kernel
theorem dL_drawn_12 : decode cL_drawn 12 = .ok (.ldc 7, 2) := by decide +kernel
theorem dL_drawn_14 : decode cL_drawn 14 = .ok (.iload_n 1, 1) := by decide +kernel
theorem dL_drawn_15 : decode cL_drawn 15 = .ok (.imul, 1) := by decide +kernel
theorem dL_drawn_16 : decode cL_drawn 16 = .ok (.sipush 18181, 3) := by decide +kernel
theorem dL_drawn_19 : decode cL_drawn 19 = .ok (.iadd, 1) := by decide +kernel
theorem dL_drawn_20 : decode cL_drawn 20 = .ok (.istore_n 3, 1) := by decide +kernel
theorem dL_drawn_21 : decode cL_drawn 21 = .ok (.iload_n 3, 1) := by decide +kernel
theorem dL_drawn_22 : decode cL_drawn 22 = .ok (.iconst 1, 1) := by decide +kernel
theorem dL_drawn_23 : decode cL_drawn 23 = .ok (.iushr, 1) := by decide +kernel
theorem dL_drawn_24 : decode cL_drawn 24 = .ok (.iload_n 2, 1) := by decide +kernel
theorem dL_drawn_25 : decode cL_drawn 25 = .ok (.irem, 1) := by decide +kernel
theorem dL_drawn_26 : decode cL_drawn 26 = .ok (.ireturn, 1) := by decide +kernel
