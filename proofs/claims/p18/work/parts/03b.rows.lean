set_option maxRecDepth 20000 in
theorem ggX0_init_J7_fill_53178 : GoodIn wsX0_init wsJ7_fill_53178 := goodIn_r _ [14] (by decide +kernel) (by decide +kernel)
set_option maxRecDepth 20000 in
theorem gX0_init_J7_fill_53178 : GoodIn wsX0_init (va_wsS RX0 30 yJ7_fill_53178 wsJ7_fill_53178) := goodIn_app (goodIn_of _ (by decide +kernel)) ggX0_init_J7_fill_53178
theorem dX0_init_0 : decode cX0_init 0 = .ok (.aload_n 0, 1) := by decide +kernel
theorem dX0_init_1 : decode cX0_init 1 = .ok (.invokespecial 3, 3) := by decide +kernel
theorem dX0_init_4 : decode cX0_init 4 = .ok (.aload_n 0, 1) := by decide +kernel
theorem dX0_init_5 : decode cX0_init 5 = .ok (.bipush 16, 2) := by decide +kernel
theorem dX0_init_7 : decode cX0_init 7 = .ok (.newarray .int, 2) := by decide +kernel
theorem dX0_init_9 : decode cX0_init 9 = .ok (.putfield 9, 3) := by decide +kernel
theorem dX0_init_12 : decode cX0_init 12 = .ok (.aload_n 0, 1) := by decide +kernel
theorem dX0_init_13 : decode cX0_init 13 = .ok (.bipush 16, 2) := by decide +kernel
theorem dX0_init_15 : decode cX0_init 15 = .ok (.newarray .int, 2) := by decide +kernel
theorem dX0_init_17 : decode cX0_init 17 = .ok (.putfield 15, 3) := by decide +kernel
theorem dX0_init_20 : decode cX0_init 20 = .ok (.aload_n 0, 1) := by decide +kernel
theorem dX0_init_21 : decode cX0_init 21 = .ok (.bipush 16, 2) := by decide +kernel
theorem dX0_init_23 : decode cX0_init 23 = .ok (.newarray .int, 2) := by decide +kernel
theorem dX0_init_25 : decode cX0_init 25 = .ok (.putfield 18, 3) := by decide +kernel
theorem dX0_init_28 : decode cX0_init 28 = .ok (.aload_n 0, 1) := by decide +kernel
theorem dX0_init_29 : decode cX0_init 29 = .ok (.bipush 16, 2) := by decide +kernel
theorem dX0_init_31 : decode cX0_init 31 = .ok (.newarray .int, 2) := by decide +kernel
theorem dX0_init_33 : decode cX0_init 33 = .ok (.putfield 21, 3) := by decide +kernel
theorem dX0_init_36 : decode cX0_init 36 = .ok (.aload_n 0, 1) := by decide +kernel
theorem dX0_init_37 : decode cX0_init 37 = .ok (.bipush 16, 2) := by decide +kernel
theorem dX0_init_39 : decode cX0_init 39 = .ok (.newarray .int, 2) := by decide +kernel
theorem dX0_init_41 : decode cX0_init 41 = .ok (.putfield 24, 3) := by decide +kernel
theorem dX0_init_44 : decode cX0_init 44 = .ok (.aload_n 0, 1) := by decide +kernel
theorem dX0_init_45 : decode cX0_init 45 = .ok (.bipush 32, 2) := by decide +kernel
theorem dX0_init_47 : decode cX0_init 47 = .ok (.newarray .int, 2) := by decide +kernel
theorem dX0_init_49 : decode cX0_init 49 = .ok (.putfield 27, 3) := by decide +kernel
theorem dX0_init_52 : decode cX0_init 52 = .ok (.aload_n 0, 1) := by decide +kernel
theorem dX0_init_53 : decode cX0_init 53 = .ok (.getfield 27, 3) := by decide +kernel
theorem dX0_init_56 : decode cX0_init 56 = .ok (.iconst (-1), 1) := by decide +kernel
theorem dX0_init_57 : decode cX0_init 57 = .ok (.invokestatic 30, 3) := by decide +kernel
theorem dX0_init_60 : decode cX0_init 60 = .ok (.return_, 1) := by decide +kernel
theorem dX0_place_0 : decode cX0_place 0 = .ok (.aload_n 0, 1) := by decide +kernel
theorem dX0_place_1 : decode cX0_place 1 = .ok (.getfield 36, 3) := by decide +kernel
theorem dX0_place_4 : decode cX0_place 4 = .ok (.istore 6, 2) := by decide +kernel
theorem dX0_place_6 : decode cX0_place 6 = .ok (.iload 6, 2) := by decide +kernel
theorem dX0_place_8 : decode cX0_place 8 = .ok (.ifCond .lt 10, 3) := by decide +kernel
theorem dX0_place_11 : decode cX0_place 11 = .ok (.iload 6, 2) := by decide +kernel
theorem dX0_place_13 : decode cX0_place 13 = .ok (.bipush 16, 2) := by decide +kernel
theorem dX0_place_15 : decode cX0_place 15 = .ok (.if_icmp .lt 5, 3) := by decide +kernel
theorem dX0_place_18 : decode cX0_place 18 = .ok (.iconst (-1), 1) := by decide +kernel
theorem dX0_place_19 : decode cX0_place 19 = .ok (.ireturn, 1) := by decide +kernel
theorem dX0_place_20 : decode cX0_place 20 = .ok (.aload_n 0, 1) := by decide +kernel
theorem dX0_place_21 : decode cX0_place 21 = .ok (.getfield 9, 3) := by decide +kernel
theorem dX0_place_24 : decode cX0_place 24 = .ok (.iload 6, 2) := by decide +kernel
theorem dX0_place_26 : decode cX0_place 26 = .ok (.iload_n 1, 1) := by decide +kernel
theorem dX0_place_27 : decode cX0_place 27 = .ok (.iastore, 1) := by decide +kernel
theorem dX0_place_28 : decode cX0_place 28 = .ok (.aload_n 0, 1) := by decide +kernel
theorem dX0_place_29 : decode cX0_place 29 = .ok (.getfield 15, 3) := by decide +kernel
theorem dX0_place_32 : decode cX0_place 32 = .ok (.iload 6, 2) := by decide +kernel
theorem dX0_place_34 : decode cX0_place 34 = .ok (.iload_n 2, 1) := by decide +kernel
theorem dX0_place_35 : decode cX0_place 35 = .ok (.iastore, 1) := by decide +kernel
theorem dX0_place_36 : decode cX0_place 36 = .ok (.aload_n 0, 1) := by decide +kernel
theorem dX0_place_37 : decode cX0_place 37 = .ok (.getfield 18, 3) := by decide +kernel
theorem dX0_place_40 : decode cX0_place 40 = .ok (.iload 6, 2) := by decide +kernel
theorem dX0_place_42 : decode cX0_place 42 = .ok (.iload_n 3, 1) := by decide +kernel
theorem dX0_place_43 : decode cX0_place 43 = .ok (.iastore, 1) := by decide +kernel
theorem dX0_place_44 : decode cX0_place 44 = .ok (.aload_n 0, 1) := by decide +kernel
theorem dX0_place_45 : decode cX0_place 45 = .ok (.getfield 21, 3) := by decide +kernel
theorem dX0_place_48 : decode cX0_place 48 = .ok (.iload 6, 2) := by decide +kernel
theorem dX0_place_50 : decode cX0_place 50 = .ok (.iload 4, 2) := by decide +kernel
theorem dX0_place_52 : decode cX0_place 52 = .ok (.iastore, 1) := by decide +kernel
theorem dX0_place_53 : decode cX0_place 53 = .ok (.aload_n 0, 1) := by decide +kernel
theorem dX0_place_54 : decode cX0_place 54 = .ok (.getfield 24, 3) := by decide +kernel
theorem dX0_place_57 : decode cX0_place 57 = .ok (.iload 6, 2) := by decide +kernel
theorem dX0_place_59 : decode cX0_place 59 = .ok (.iload 5, 2) := by decide +kernel
theorem dX0_place_61 : decode cX0_place 61 = .ok (.iastore, 1) := by decide +kernel
theorem dX0_place_62 : decode cX0_place 62 = .ok (.aload_n 0, 1) := by decide +kernel
theorem dX0_place_63 : decode cX0_place 63 = .ok (.iload 6, 2) := by decide +kernel
theorem dX0_place_65 : decode cX0_place 65 = .ok (.iconst 1, 1) := by decide +kernel
theorem dX0_place_66 : decode cX0_place 66 = .ok (.iadd, 1) := by decide +kernel
theorem dX0_place_67 : decode cX0_place 67 = .ok (.putfield 36, 3) := by decide +kernel
theorem dX0_place_70 : decode cX0_place 70 = .ok (.iload 6, 2) := by decide +kernel
theorem dX0_place_72 : decode cX0_place 72 = .ok (.ireturn, 1) := by decide +kernel
theorem dX0_isTaken_0 : decode cX0_isTaken 0 = .ok (.iconst 0, 1) := by decide +kernel
theorem dX0_isTaken_1 : decode cX0_isTaken 1 = .ok (.istore_n 3, 1) := by decide +kernel
theorem dX0_isTaken_2 : decode cX0_isTaken 2 = .ok (.iload_n 3, 1) := by decide +kernel
theorem dX0_isTaken_3 : decode cX0_isTaken 3 = .ok (.aload_n 0, 1) := by decide +kernel
theorem dX0_isTaken_4 : decode cX0_isTaken 4 = .ok (.getfield 27, 3) := by decide +kernel
theorem dX0_isTaken_7 : decode cX0_isTaken 7 = .ok (.arraylength, 1) := by decide +kernel
theorem dX0_isTaken_8 : decode cX0_isTaken 8 = .ok (.if_icmp .ge 26, 3) := by decide +kernel
theorem dX0_isTaken_11 : decode cX0_isTaken 11 = .ok (.iload_n 3, 1) := by decide +kernel
theorem dX0_isTaken_12 : decode cX0_isTaken 12 = .ok (.iload_n 1, 1) := by decide +kernel
theorem dX0_isTaken_13 : decode cX0_isTaken 13 = .ok (.if_icmp .eq 15, 3) := by decide +kernel
theorem dX0_isTaken_16 : decode cX0_isTaken 16 = .ok (.aload_n 0, 1) := by decide +kernel
theorem dX0_isTaken_17 : decode cX0_isTaken 17 = .ok (.getfield 27, 3) := by decide +kernel
theorem dX0_isTaken_20 : decode cX0_isTaken 20 = .ok (.iload_n 3, 1) := by decide +kernel
theorem dX0_isTaken_21 : decode cX0_isTaken 21 = .ok (.iaload, 1) := by decide +kernel
theorem dX0_isTaken_22 : decode cX0_isTaken 22 = .ok (.iload_n 2, 1) := by decide +kernel
theorem dX0_isTaken_23 : decode cX0_isTaken 23 = .ok (.if_icmp .ne 5, 3) := by decide +kernel
theorem dX0_isTaken_26 : decode cX0_isTaken 26 = .ok (.iconst 1, 1) := by decide +kernel
theorem dX0_isTaken_27 : decode cX0_isTaken 27 = .ok (.ireturn, 1) := by decide +kernel
theorem dX0_isTaken_28 : decode cX0_isTaken 28 = .ok (.iinc 3 1, 3) := by decide +kernel
theorem dX0_isTaken_31 : decode cX0_isTaken 31 = .ok (.goto (-29), 3) := by decide +kernel
theorem dX0_isTaken_34 : decode cX0_isTaken 34 = .ok (.iconst 0, 1) := by decide +kernel
theorem dX0_isTaken_35 : decode cX0_isTaken 35 = .ok (.ireturn, 1) := by decide +kernel
theorem dX0_turn_0 : decode cX0_turn 0 = .ok (.iload_n 1, 1) := by decide +kernel
theorem dX0_turn_1 : decode cX0_turn 1 = .ok (.ifCond .lt 12, 3) := by decide +kernel
theorem dX0_turn_4 : decode cX0_turn 4 = .ok (.iload_n 1, 1) := by decide +kernel
theorem dX0_turn_5 : decode cX0_turn 5 = .ok (.aload_n 0, 1) := by decide +kernel
theorem dX0_turn_6 : decode cX0_turn 6 = .ok (.getfield 27, 3) := by decide +kernel
theorem dX0_turn_9 : decode cX0_turn 9 = .ok (.arraylength, 1) := by decide +kernel
theorem dX0_turn_10 : decode cX0_turn 10 = .ok (.if_icmp .lt 5, 3) := by decide +kernel
theorem dX0_turn_13 : decode cX0_turn 13 = .ok (.iconst (-1), 1) := by decide +kernel
theorem dX0_turn_14 : decode cX0_turn 14 = .ok (.ireturn, 1) := by decide +kernel
theorem dX0_turn_15 : decode cX0_turn 15 = .ok (.aload_n 0, 1) := by decide +kernel
theorem dX0_turn_16 : decode cX0_turn 16 = .ok (.getfield 27, 3) := by decide +kernel
theorem dX0_turn_19 : decode cX0_turn 19 = .ok (.iload_n 1, 1) := by decide +kernel
theorem dX0_turn_20 : decode cX0_turn 20 = .ok (.iaload, 1) := by decide +kernel
theorem dX0_turn_21 : decode cX0_turn 21 = .ok (.istore_n 3, 1) := by decide +kernel
theorem dX0_turn_22 : decode cX0_turn 22 = .ok (.aload_n 0, 1) := by decide +kernel
theorem dX0_turn_23 : decode cX0_turn 23 = .ok (.getfield 27, 3) := by decide +kernel
theorem dX0_turn_26 : decode cX0_turn 26 = .ok (.iload_n 1, 1) := by decide +kernel
theorem dX0_turn_27 : decode cX0_turn 27 = .ok (.iload_n 2, 1) := by decide +kernel
theorem dX0_turn_28 : decode cX0_turn 28 = .ok (.iastore, 1) := by decide +kernel
theorem dX0_turn_29 : decode cX0_turn 29 = .ok (.iload_n 3, 1) := by decide +kernel
theorem dX0_turn_30 : decode cX0_turn 30 = .ok (.iconst (-1), 1) := by decide +kernel
theorem dX0_turn_31 : decode cX0_turn 31 = .ok (.if_icmp .ne 7, 3) := by decide +kernel
theorem dX0_turn_34 : decode cX0_turn 34 = .ok (.iconst (-1), 1) := by decide +kernel
theorem dX0_turn_35 : decode cX0_turn 35 = .ok (.goto 6, 3) := by decide +kernel
theorem dX0_turn_38 : decode cX0_turn 38 = .ok (.iload_n 3, 1) := by decide +kernel
theorem dX0_turn_39 : decode cX0_turn 39 = .ok (.iconst 2, 1) := by decide +kernel
theorem dX0_turn_40 : decode cX0_turn 40 = .ok (.idiv, 1) := by decide +kernel
theorem dX0_turn_41 : decode cX0_turn 41 = .ok (.ireturn, 1) := by decide +kernel
theorem dX0_distance_0 : decode cX0_distance 0 = .ok (.aload_n 0, 1) := by decide +kernel
theorem dX0_distance_1 : decode cX0_distance 1 = .ok (.getfield 15, 3) := by decide +kernel
theorem dX0_distance_4 : decode cX0_distance 4 = .ok (.iload_n 1, 1) := by decide +kernel
theorem dX0_distance_5 : decode cX0_distance 5 = .ok (.iaload, 1) := by decide +kernel
theorem dX0_distance_6 : decode cX0_distance 6 = .ok (.aload_n 0, 1) := by decide +kernel
theorem dX0_distance_7 : decode cX0_distance 7 = .ok (.getfield 15, 3) := by decide +kernel
theorem dX0_distance_10 : decode cX0_distance 10 = .ok (.iload_n 2, 1) := by decide +kernel
theorem dX0_distance_11 : decode cX0_distance 11 = .ok (.iaload, 1) := by decide +kernel
theorem dX0_distance_12 : decode cX0_distance 12 = .ok (.isub, 1) := by decide +kernel
theorem dX0_distance_13 : decode cX0_distance 13 = .ok (.invokestatic 40, 3) := by decide +kernel
theorem dX0_distance_16 : decode cX0_distance 16 = .ok (.aload_n 0, 1) := by decide +kernel
theorem dX0_distance_17 : decode cX0_distance 17 = .ok (.getfield 18, 3) := by decide +kernel
theorem dX0_distance_20 : decode cX0_distance 20 = .ok (.iload_n 1, 1) := by decide +kernel
theorem dX0_distance_21 : decode cX0_distance 21 = .ok (.iaload, 1) := by decide +kernel
theorem dX0_distance_22 : decode cX0_distance 22 = .ok (.aload_n 0, 1) := by decide +kernel
theorem dX0_distance_23 : decode cX0_distance 23 = .ok (.getfield 18, 3) := by decide +kernel
theorem dX0_distance_26 : decode cX0_distance 26 = .ok (.iload_n 2, 1) := by decide +kernel
theorem dX0_distance_27 : decode cX0_distance 27 = .ok (.iaload, 1) := by decide +kernel
theorem dX0_distance_28 : decode cX0_distance 28 = .ok (.isub, 1) := by decide +kernel
theorem dX0_distance_29 : decode cX0_distance 29 = .ok (.invokestatic 40, 3) := by decide +kernel
theorem dX0_distance_32 : decode cX0_distance 32 = .ok (.iadd, 1) := by decide +kernel
theorem dX0_distance_33 : decode cX0_distance 33 = .ok (.ireturn, 1) := by decide +kernel
set_option maxRecDepth 20000 in
theorem ggX0_target_X0_distance : GoodIn wsX0_target wsX0_distance := goodIn_r _ [12, 13, 14, 15, 6, 16, 17, 18, 19, 20, 21, 22, 23, 24] (by decide +kernel) (by decide +kernel)
set_option maxRecDepth 20000 in
theorem gX0_target_X0_distance : GoodIn wsX0_target (wsV RX0 46 RX0 yX0_distance wsX0_distance) := goodIn_app (goodIn_of _ (by decide +kernel)) ggX0_target_X0_distance
theorem dX0_target_0 : decode cX0_target 0 = .ok (.iconst 4, 1) := by decide +kernel
theorem dX0_target_1 : decode cX0_target 1 = .ok (.aload_n 0, 1) := by decide +kernel
theorem dX0_target_2 : decode cX0_target 2 = .ok (.getfield 24, 3) := by decide +kernel
theorem dX0_target_5 : decode cX0_target 5 = .ok (.iload_n 1, 1) := by decide +kernel
theorem dX0_target_6 : decode cX0_target 6 = .ok (.iaload, 1) := by decide +kernel
theorem dX0_target_7 : decode cX0_target 7 = .ok (.imul, 1) := by decide +kernel
theorem dX0_target_8 : decode cX0_target 8 = .ok (.istore_n 2, 1) := by decide +kernel
theorem dX0_target_9 : decode cX0_target 9 = .ok (.iconst 0, 1) := by decide +kernel
theorem dX0_target_10 : decode cX0_target 10 = .ok (.istore_n 3, 1) := by decide +kernel
theorem dX0_target_11 : decode cX0_target 11 = .ok (.iload_n 3, 1) := by decide +kernel
theorem dX0_target_12 : decode cX0_target 12 = .ok (.aload_n 0, 1) := by decide +kernel
theorem dX0_target_13 : decode cX0_target 13 = .ok (.getfield 36, 3) := by decide +kernel
theorem dX0_target_16 : decode cX0_target 16 = .ok (.if_icmp .ge 44, 3) := by decide +kernel
theorem dX0_target_19 : decode cX0_target 19 = .ok (.iload_n 3, 1) := by decide +kernel
theorem dX0_target_20 : decode cX0_target 20 = .ok (.iload_n 1, 1) := by decide +kernel
theorem dX0_target_21 : decode cX0_target 21 = .ok (.if_icmp .eq 33, 3) := by decide +kernel
theorem dX0_target_24 : decode cX0_target 24 = .ok (.aload_n 0, 1) := by decide +kernel
theorem dX0_target_25 : decode cX0_target 25 = .ok (.getfield 9, 3) := by decide +kernel
theorem dX0_target_28 : decode cX0_target 28 = .ok (.iload_n 3, 1) := by decide +kernel
theorem dX0_target_29 : decode cX0_target 29 = .ok (.iaload, 1) := by decide +kernel
theorem dX0_target_30 : decode cX0_target 30 = .ok (.iconst 3, 1) := by decide +kernel
theorem dX0_target_31 : decode cX0_target 31 = .ok (.if_icmp .ne 23, 3) := by decide +kernel
theorem dX0_target_34 : decode cX0_target 34 = .ok (.iload_n 2, 1) := by decide +kernel
theorem dX0_target_35 : decode cX0_target 35 = .ok (.aload_n 0, 1) := by decide +kernel
theorem dX0_target_36 : decode cX0_target 36 = .ok (.getfield 24, 3) := by decide +kernel
theorem dX0_target_39 : decode cX0_target 39 = .ok (.iload_n 3, 1) := by decide +kernel
theorem dX0_target_40 : decode cX0_target 40 = .ok (.iaload, 1) := by decide +kernel
theorem dX0_target_41 : decode cX0_target 41 = .ok (.iconst 1, 1) := by decide +kernel
theorem dX0_target_42 : decode cX0_target 42 = .ok (.aload_n 0, 1) := by decide +kernel
theorem dX0_target_43 : decode cX0_target 43 = .ok (.iload_n 1, 1) := by decide +kernel
theorem dX0_target_44 : decode cX0_target 44 = .ok (.iload_n 3, 1) := by decide +kernel
theorem dX0_target_45 : decode cX0_target 45 = .ok (.invokevirtual 46, 3) := by decide +kernel
theorem dX0_target_48 : decode cX0_target 48 = .ok (.invokestatic 50, 3) := by decide +kernel
theorem dX0_target_51 : decode cX0_target 51 = .ok (.idiv, 1) := by decide +kernel
theorem dX0_target_52 : decode cX0_target 52 = .ok (.iadd, 1) := by decide +kernel
theorem dX0_target_53 : decode cX0_target 53 = .ok (.istore_n 2, 1) := by decide +kernel
theorem dX0_target_54 : decode cX0_target 54 = .ok (.iinc 3 1, 3) := by decide +kernel
theorem dX0_target_57 : decode cX0_target 57 = .ok (.goto (-46), 3) := by decide +kernel
theorem dX0_target_60 : decode cX0_target 60 = .ok (.iload_n 2, 1) := by decide +kernel
theorem dX0_target_61 : decode cX0_target 61 = .ok (.ireturn, 1) := by decide +kernel
theorem dX1_init_0 : decode cX1_init 0 = .ok (.aload_n 0, 1) := by decide +kernel
theorem dX1_init_1 : decode cX1_init 1 = .ok (.invokespecial 3, 3) := by decide +kernel
theorem dX1_init_4 : decode cX1_init 4 = .ok (.aload_n 0, 1) := by decide +kernel
theorem dX1_init_5 : decode cX1_init 5 = .ok (.sipush 256, 3) := by decide +kernel
theorem dX1_init_8 : decode cX1_init 8 = .ok (.newarray .long, 2) := by decide +kernel
theorem dX1_init_10 : decode cX1_init 10 = .ok (.putfield 9, 3) := by decide +kernel
theorem dX1_init_13 : decode cX1_init 13 = .ok (.aload_n 0, 1) := by decide +kernel
theorem dX1_init_14 : decode cX1_init 14 = .ok (.sipush 256, 3) := by decide +kernel
theorem dX1_init_17 : decode cX1_init 17 = .ok (.newarray .long, 2) := by decide +kernel
theorem dX1_init_19 : decode cX1_init 19 = .ok (.putfield 15, 3) := by decide +kernel
theorem dX1_init_22 : decode cX1_init 22 = .ok (.aload_n 0, 1) := by decide +kernel
theorem dX1_init_23 : decode cX1_init 23 = .ok (.sipush 1024, 3) := by decide +kernel
theorem dX1_init_26 : decode cX1_init 26 = .ok (.newarray .long, 2) := by decide +kernel
theorem dX1_init_28 : decode cX1_init 28 = .ok (.putfield 18, 3) := by decide +kernel
theorem dX1_init_31 : decode cX1_init 31 = .ok (.aload_n 0, 1) := by decide +kernel
theorem dX1_init_32 : decode cX1_init 32 = .ok (.sipush 128, 3) := by decide +kernel
theorem dX1_init_35 : decode cX1_init 35 = .ok (.newarray .long, 2) := by decide +kernel
theorem dX1_init_37 : decode cX1_init 37 = .ok (.putfield 21, 3) := by decide +kernel
theorem dX1_init_40 : decode cX1_init 40 = .ok (.aload_n 0, 1) := by decide +kernel
theorem dX1_init_41 : decode cX1_init 41 = .ok (.sipush 128, 3) := by decide +kernel
theorem dX1_init_44 : decode cX1_init 44 = .ok (.newarray .long, 2) := by decide +kernel
theorem dX1_init_46 : decode cX1_init 46 = .ok (.putfield 24, 3) := by decide +kernel
theorem dX1_init_49 : decode cX1_init 49 = .ok (.aload_n 0, 1) := by decide +kernel
theorem dX1_init_50 : decode cX1_init 50 = .ok (.bipush 16, 2) := by decide +kernel
theorem dX1_init_52 : decode cX1_init 52 = .ok (.newarray .int, 2) := by decide +kernel
theorem dX1_init_54 : decode cX1_init 54 = .ok (.putfield 27, 3) := by decide +kernel
theorem dX1_init_57 : decode cX1_init 57 = .ok (.aload_n 0, 1) := by decide +kernel
theorem dX1_init_58 : decode cX1_init 58 = .ok (.aload_n 1, 1) := by decide +kernel
theorem dX1_init_59 : decode cX1_init 59 = .ok (.putfield 31, 3) := by decide +kernel
theorem dX1_init_62 : decode cX1_init 62 = .ok (.return_, 1) := by decide +kernel
set_option maxRecDepth 20000 in
theorem ggX1_restart_J7_fill_d0a16 : GoodIn wsX1_restart wsJ7_fill_d0a16 := goodIn_r _ [17] (by decide +kernel) (by decide +kernel)
set_option maxRecDepth 20000 in
theorem gX1_restart_J7_fill_d0a16 : GoodIn wsX1_restart (va_wsS RX1 35 yJ7_fill_d0a16 wsJ7_fill_d0a16) := goodIn_app (goodIn_of _ (by decide +kernel)) ggX1_restart_J7_fill_d0a16
set_option maxRecDepth 20000 in
theorem ggX1_restart_X0_target : GoodIn wsX1_restart wsX0_target := goodIn_r _ [22, 23, 24, 25, 26, 27, 28, 29, 30, 31, 32, 21, 33, 34, 35, 36, 37, 38, 52, 53, 54, 55, 56, 57, 58] (by decide +kernel) (by decide +kernel)
set_option maxRecDepth 20000 in
theorem gX1_restart_X0_target : GoodIn wsX1_restart (wsV RX1 69 RX0 yX0_target wsX0_target) := goodIn_app (goodIn_of _ (by decide +kernel)) ggX1_restart_X0_target
theorem dX1_restart_0 : decode cX1_restart 0 = .ok (.aload_n 0, 1) := by decide +kernel
theorem dX1_restart_1 : decode cX1_restart 1 = .ok (.getfield 9, 3) := by decide +kernel
theorem dX1_restart_4 : decode cX1_restart 4 = .ok (.lconst 0, 1) := by decide +kernel
theorem dX1_restart_5 : decode cX1_restart 5 = .ok (.invokestatic 35, 3) := by decide +kernel
theorem dX1_restart_8 : decode cX1_restart 8 = .ok (.aload_n 0, 1) := by decide +kernel
theorem dX1_restart_9 : decode cX1_restart 9 = .ok (.getfield 18, 3) := by decide +kernel
theorem dX1_restart_12 : decode cX1_restart 12 = .ok (.lconst 0, 1) := by decide +kernel
theorem dX1_restart_13 : decode cX1_restart 13 = .ok (.invokestatic 35, 3) := by decide +kernel
theorem dX1_restart_16 : decode cX1_restart 16 = .ok (.aload_n 0, 1) := by decide +kernel
theorem dX1_restart_17 : decode cX1_restart 17 = .ok (.getfield 24, 3) := by decide +kernel
theorem dX1_restart_20 : decode cX1_restart 20 = .ok (.lconst 0, 1) := by decide +kernel
theorem dX1_restart_21 : decode cX1_restart 21 = .ok (.invokestatic 35, 3) := by decide +kernel
theorem dX1_restart_24 : decode cX1_restart 24 = .ok (.aload_n 0, 1) := by decide +kernel
theorem dX1_restart_25 : decode cX1_restart 25 = .ok (.iload_n 1, 1) := by decide +kernel
theorem dX1_restart_26 : decode cX1_restart 26 = .ok (.putfield 41, 3) := by decide +kernel
theorem dX1_restart_29 : decode cX1_restart 29 = .ok (.aload_n 0, 1) := by decide +kernel
theorem dX1_restart_30 : decode cX1_restart 30 = .ok (.iconst 0, 1) := by decide +kernel
theorem dX1_restart_31 : decode cX1_restart 31 = .ok (.putfield 45, 3) := by decide +kernel
theorem dX1_restart_34 : decode cX1_restart 34 = .ok (.aload_n 0, 1) := by decide +kernel
theorem dX1_restart_35 : decode cX1_restart 35 = .ok (.lconst 0, 1) := by decide +kernel
theorem dX1_restart_36 : decode cX1_restart 36 = .ok (.putfield 48, 3) := by decide +kernel
theorem dX1_restart_39 : decode cX1_restart 39 = .ok (.aload_n 0, 1) := by decide +kernel
theorem dX1_restart_40 : decode cX1_restart 40 = .ok (.lconst 0, 1) := by decide +kernel
theorem dX1_restart_41 : decode cX1_restart 41 = .ok (.putfield 52, 3) := by decide +kernel
theorem dX1_restart_44 : decode cX1_restart 44 = .ok (.aload_n 0, 1) := by decide +kernel
theorem dX1_restart_45 : decode cX1_restart 45 = .ok (.lconst 0, 1) := by decide +kernel
theorem dX1_restart_46 : decode cX1_restart 46 = .ok (.putfield 55, 3) := by decide +kernel
theorem dX1_restart_49 : decode cX1_restart 49 = .ok (.aload_n 0, 1) := by decide +kernel
theorem dX1_restart_50 : decode cX1_restart 50 = .ok (.lconst 0, 1) := by decide +kernel
theorem dX1_restart_51 : decode cX1_restart 51 = .ok (.putfield 58, 3) := by decide +kernel
theorem dX1_restart_54 : decode cX1_restart 54 = .ok (.iconst 0, 1) := by decide +kernel
theorem dX1_restart_55 : decode cX1_restart 55 = .ok (.istore_n 2, 1) := by decide +kernel
theorem dX1_restart_56 : decode cX1_restart 56 = .ok (.iload_n 2, 1) := by decide +kernel
theorem dX1_restart_57 : decode cX1_restart 57 = .ok (.aload_n 0, 1) := by decide +kernel
theorem dX1_restart_58 : decode cX1_restart 58 = .ok (.getfield 31, 3) := by decide +kernel
theorem dX1_restart_61 : decode cX1_restart 61 = .ok (.getfield 61, 3) := by decide +kernel
theorem dX1_restart_64 : decode cX1_restart 64 = .ok (.if_icmp .ge 40, 3) := by decide +kernel
theorem dX1_restart_67 : decode cX1_restart 67 = .ok (.aload_n 0, 1) := by decide +kernel
theorem dX1_restart_68 : decode cX1_restart 68 = .ok (.getfield 27, 3) := by decide +kernel
theorem dX1_restart_71 : decode cX1_restart 71 = .ok (.iload_n 2, 1) := by decide +kernel
theorem dX1_restart_72 : decode cX1_restart 72 = .ok (.aload_n 0, 1) := by decide +kernel
theorem dX1_restart_73 : decode cX1_restart 73 = .ok (.getfield 31, 3) := by decide +kernel
theorem dX1_restart_76 : decode cX1_restart 76 = .ok (.getfield 66, 3) := by decide +kernel
theorem dX1_restart_79 : decode cX1_restart 79 = .ok (.iload_n 2, 1) := by decide +kernel
theorem dX1_restart_80 : decode cX1_restart 80 = .ok (.iaload, 1) := by decide +kernel
theorem dX1_restart_81 : decode cX1_restart 81 = .ok (.iconst 3, 1) := by decide +kernel
theorem dX1_restart_82 : decode cX1_restart 82 = .ok (.if_icmp .ne 14, 3) := by decide +kernel
theorem dX1_restart_85 : decode cX1_restart 85 = .ok (.aload_n 0, 1) := by decide +kernel
theorem dX1_restart_86 : decode cX1_restart 86 = .ok (.getfield 31, 3) := by decide +kernel
theorem dX1_restart_89 : decode cX1_restart 89 = .ok (.iload_n 2, 1) := by decide +kernel
theorem dX1_restart_90 : decode cX1_restart 90 = .ok (.invokevirtual 69, 3) := by decide +kernel
theorem dX1_restart_93 : decode cX1_restart 93 = .ok (.goto 4, 3) := by decide +kernel
theorem dX1_restart_96 : decode cX1_restart 96 = .ok (.iconst 0, 1) := by decide +kernel
theorem dX1_restart_97 : decode cX1_restart 97 = .ok (.iastore, 1) := by decide +kernel
theorem dX1_restart_98 : decode cX1_restart 98 = .ok (.iinc 2 1, 3) := by decide +kernel
theorem dX1_restart_101 : decode cX1_restart 101 = .ok (.goto (-45), 3) := by decide +kernel
theorem dX1_restart_104 : decode cX1_restart 104 = .ok (.return_, 1) := by decide +kernel
set_option maxRecDepth 20000 in
theorem ggX1_shine_X1_work : GoodIn wsX1_shine wsX1_work := goodIn_r _ [10, 1, 11, 12, 13, 14, 9, 15, 16, 17, 18, 19, 20, 21, 22, 23, 24, 4, 25, 26, 27, 28, 29, 30, 31, 5, 32, 33, 34, 35, 36, 37, 38, 39, 40, 41, 42, 43, 44, 45, 3, 46, 47, 48, 49, 50, 51, 52, 53, 54, 55, 56, 57, 58, 59, 60, 61, 62, 63, 64, 65, 66, 67, 68, 69, 70, 71, 72, 73, 74, 75, 76, 77, 78, 79, 80, 81, 82, 83, 84, 85, 86, 87, 88, 89] (by decide +kernel) (by decide +kernel)
set_option maxRecDepth 20000 in
theorem gX1_shine_X1_work : GoodIn wsX1_shine (wsV RX1 73 RX1 yX1_work wsX1_work) := goodIn_app (goodIn_of _ (by decide +kernel)) ggX1_shine_X1_work
theorem dX1_shine_0 : decode cX1_shine 0 = .ok (.iconst 0, 1) := by decide +kernel
theorem dX1_shine_1 : decode cX1_shine 1 = .ok (.istore_n 1, 1) := by decide +kernel
theorem dX1_shine_2 : decode cX1_shine 2 = .ok (.iload_n 1, 1) := by decide +kernel
theorem dX1_shine_3 : decode cX1_shine 3 = .ok (.aload_n 0, 1) := by decide +kernel
theorem dX1_shine_4 : decode cX1_shine 4 = .ok (.getfield 31, 3) := by decide +kernel
theorem dX1_shine_7 : decode cX1_shine 7 = .ok (.getfield 61, 3) := by decide +kernel
theorem dX1_shine_10 : decode cX1_shine 10 = .ok (.if_icmp .ge 14, 3) := by decide +kernel
theorem dX1_shine_13 : decode cX1_shine 13 = .ok (.aload_n 0, 1) := by decide +kernel
theorem dX1_shine_14 : decode cX1_shine 14 = .ok (.iload_n 1, 1) := by decide +kernel
theorem dX1_shine_15 : decode cX1_shine 15 = .ok (.invokevirtual 73, 3) := by decide +kernel
theorem dX1_shine_18 : decode cX1_shine 18 = .ok (.iinc 1 1, 3) := by decide +kernel
theorem dX1_shine_21 : decode cX1_shine 21 = .ok (.goto (-19), 3) := by decide +kernel
theorem dX1_shine_24 : decode cX1_shine 24 = .ok (.aload_n 0, 1) := by decide +kernel
theorem dX1_shine_25 : decode cX1_shine 25 = .ok (.getfield 9, 3) := by decide +kernel
theorem dX1_shine_28 : decode cX1_shine 28 = .ok (.astore_n 1, 1) := by decide +kernel
theorem dX1_shine_29 : decode cX1_shine 29 = .ok (.aload_n 0, 1) := by decide +kernel
theorem dX1_shine_30 : decode cX1_shine 30 = .ok (.aload_n 0, 1) := by decide +kernel
theorem dX1_shine_31 : decode cX1_shine 31 = .ok (.getfield 15, 3) := by decide +kernel
theorem dX1_shine_34 : decode cX1_shine 34 = .ok (.putfield 9, 3) := by decide +kernel
theorem dX1_shine_37 : decode cX1_shine 37 = .ok (.aload_n 0, 1) := by decide +kernel
theorem dX1_shine_38 : decode cX1_shine 38 = .ok (.aload_n 1, 1) := by decide +kernel
theorem dX1_shine_39 : decode cX1_shine 39 = .ok (.putfield 15, 3) := by decide +kernel
theorem dX1_shine_42 : decode cX1_shine 42 = .ok (.aload_n 0, 1) := by decide +kernel
theorem dX1_shine_43 : decode cX1_shine 43 = .ok (.dup, 1) := by decide +kernel
theorem dX1_shine_44 : decode cX1_shine 44 = .ok (.getfield 45, 3) := by decide +kernel
theorem dX1_shine_47 : decode cX1_shine 47 = .ok (.iconst 1, 1) := by decide +kernel
theorem dX1_shine_48 : decode cX1_shine 48 = .ok (.iadd, 1) := by decide +kernel
theorem dX1_shine_49 : decode cX1_shine 49 = .ok (.putfield 45, 3) := by decide +kernel
theorem dX1_shine_52 : decode cX1_shine 52 = .ok (.return_, 1) := by decide +kernel
set_option maxRecDepth 20000 in
theorem ggX1_work_X1_emit : GoodIn wsX1_work wsX1_emit := goodIn_r _ [7, 1, 8, 9, 10, 11, 12, 13, 6, 14, 15, 16, 17, 18, 19, 20, 65, 66, 67, 68, 69, 70, 71, 72, 73, 74, 75, 76, 77, 78, 79, 80, 81, 82, 83, 84] (by decide +kernel) (by decide +kernel)
set_option maxRecDepth 20000 in
theorem gX1_work_X1_emit : GoodIn wsX1_work (wsV RX1 77 RX1 yX1_emit wsX1_emit) := goodIn_app (goodIn_of _ (by decide +kernel)) ggX1_work_X1_emit
set_option maxRecDepth 20000 in
theorem ggX1_work_X1_guide : GoodIn wsX1_work wsX1_guide := goodIn_r _ [24, 1, 8, 10, 25, 26, 27, 28, 29, 30, 6, 31, 32, 33, 34, 35, 36, 37, 38, 39, 40, 18, 19, 20, 11, 12, 13, 14, 15, 16, 17, 65, 66, 67, 68, 69, 70, 71, 72, 73, 74, 75, 76, 77, 78, 79, 80, 81, 82, 83, 84] (by decide +kernel) (by decide +kernel)
set_option maxRecDepth 20000 in
theorem gX1_work_X1_guide : GoodIn wsX1_work (wsV RX1 80 RX1 yX1_guide wsX1_guide) := goodIn_app (goodIn_of _ (by decide +kernel)) ggX1_work_X1_guide
set_option maxRecDepth 20000 in
theorem ggX1_work_X1_couple : GoodIn wsX1_work wsX1_couple := goodIn_r _ [44, 1, 2, 45, 8, 26, 46, 47, 48, 6, 49, 10, 50, 51, 32, 33, 34, 35, 36, 37, 38, 39, 40, 18, 19, 20, 52, 53, 54, 11, 12, 13, 14, 15, 16, 17, 65, 66, 67, 68, 69, 70, 71, 72, 73, 74, 75, 76, 77, 78, 79, 80, 81, 82, 83, 84] (by decide +kernel) (by decide +kernel)
set_option maxRecDepth 20000 in
theorem gX1_work_X1_couple : GoodIn wsX1_work (wsV RX1 83 RX1 yX1_couple wsX1_couple) := goodIn_app (goodIn_of _ (by decide +kernel)) ggX1_work_X1_couple
set_option maxRecDepth 20000 in
theorem ggX1_work_X1_pass : GoodIn wsX1_work wsX1_pass := goodIn_r _ [58, 1, 8, 25, 27, 36, 37, 38, 6, 39, 40, 18, 19, 20, 11, 12, 13, 14, 15, 16, 17, 65, 66, 67, 68, 69, 70, 71, 72, 73, 74, 75, 76, 77, 78, 79, 80, 81, 82, 83, 84] (by decide +kernel) (by decide +kernel)
set_option maxRecDepth 20000 in
theorem gX1_work_X1_pass : GoodIn wsX1_work (wsV RX1 86 RX1 yX1_pass wsX1_pass) := goodIn_app (goodIn_of _ (by decide +kernel)) ggX1_work_X1_pass
set_option maxRecDepth 20000 in
theorem ggX1_work_X1_detect : GoodIn wsX1_work wsX1_detect := goodIn_r _ [62, 63, 64, 36, 37, 38, 6, 39, 40, 18, 19, 20, 65, 66, 67, 68, 69, 70, 71, 72, 73, 74, 75, 76, 77] (by decide +kernel) (by decide +kernel)
set_option maxRecDepth 20000 in
theorem gX1_work_X1_detect : GoodIn wsX1_work (wsV RX1 89 RX1 yX1_detect wsX1_detect) := goodIn_app (goodIn_of _ (by decide +kernel)) ggX1_work_X1_detect
theorem dX1_work_0 : decode cX1_work 0 = .ok (.aload_n 0, 1) := by decide +kernel
theorem dX1_work_1 : decode cX1_work 1 = .ok (.getfield 31, 3) := by decide +kernel
theorem dX1_work_4 : decode cX1_work 4 = .ok (.getfield 66, 3) := by decide +kernel
theorem dX1_work_7 : decode cX1_work 7 = .ok (.iload_n 1, 1) := by decide +kernel
theorem dX1_work_8 : decode cX1_work 8 = .ok (.iaload, 1) := by decide +kernel
theorem dX1_work_9 : decode cX1_work 9 = .ok (.tableswitch 67 0 4 #[35, 43, 51, 51, 59], 35) := by decide +kernel
theorem dX1_work_44 : decode cX1_work 44 = .ok (.aload_n 0, 1) := by decide +kernel
theorem dX1_work_45 : decode cX1_work 45 = .ok (.iload_n 1, 1) := by decide +kernel
theorem dX1_work_46 : decode cX1_work 46 = .ok (.invokevirtual 77, 3) := by decide +kernel
theorem dX1_work_49 : decode cX1_work 49 = .ok (.goto 32, 3) := by decide +kernel
theorem dX1_work_52 : decode cX1_work 52 = .ok (.aload_n 0, 1) := by decide +kernel
theorem dX1_work_53 : decode cX1_work 53 = .ok (.iload_n 1, 1) := by decide +kernel
theorem dX1_work_54 : decode cX1_work 54 = .ok (.invokevirtual 80, 3) := by decide +kernel
theorem dX1_work_57 : decode cX1_work 57 = .ok (.goto 24, 3) := by decide +kernel
theorem dX1_work_60 : decode cX1_work 60 = .ok (.aload_n 0, 1) := by decide +kernel
theorem dX1_work_61 : decode cX1_work 61 = .ok (.iload_n 1, 1) := by decide +kernel
theorem dX1_work_62 : decode cX1_work 62 = .ok (.invokevirtual 83, 3) := by decide +kernel
theorem dX1_work_65 : decode cX1_work 65 = .ok (.goto 16, 3) := by decide +kernel
theorem dX1_work_68 : decode cX1_work 68 = .ok (.aload_n 0, 1) := by decide +kernel
theorem dX1_work_69 : decode cX1_work 69 = .ok (.iload_n 1, 1) := by decide +kernel
theorem dX1_work_70 : decode cX1_work 70 = .ok (.invokevirtual 86, 3) := by decide +kernel
theorem dX1_work_73 : decode cX1_work 73 = .ok (.goto 8, 3) := by decide +kernel
theorem dX1_work_76 : decode cX1_work 76 = .ok (.aload_n 0, 1) := by decide +kernel
theorem dX1_work_77 : decode cX1_work 77 = .ok (.iload_n 1, 1) := by decide +kernel
theorem dX1_work_78 : decode cX1_work 78 = .ok (.invokevirtual 89, 3) := by decide +kernel
theorem dX1_work_81 : decode cX1_work 81 = .ok (.return_, 1) := by decide +kernel
set_option maxRecDepth 20000 in
theorem ggX1_emit_X1_give : GoodIn wsX1_emit wsX1_give := goodIn_r _ [9, 1, 10, 11, 12, 13, 14, 15, 16, 17, 18, 19, 20, 21, 22, 23, 24, 25, 26, 27, 28, 29, 30, 31, 32, 33, 34, 35] (by decide +kernel) (by decide +kernel)
set_option maxRecDepth 20000 in
theorem gX1_emit_X1_give : GoodIn wsX1_emit (wsV RX1 98 RX1 yX1_give wsX1_give) := goodIn_app (goodIn_of _ (by decide +kernel)) ggX1_emit_X1_give
theorem dX1_emit_0 : decode cX1_emit 0 = .ok (.aload_n 0, 1) := by decide +kernel
theorem dX1_emit_1 : decode cX1_emit 1 = .ok (.getfield 31, 3) := by decide +kernel
theorem dX1_emit_4 : decode cX1_emit 4 = .ok (.getfield 92, 3) := by decide +kernel
theorem dX1_emit_7 : decode cX1_emit 7 = .ok (.iload_n 1, 1) := by decide +kernel
theorem dX1_emit_8 : decode cX1_emit 8 = .ok (.iaload, 1) := by decide +kernel
theorem dX1_emit_9 : decode cX1_emit 9 = .ok (.istore_n 2, 1) := by decide +kernel
theorem dX1_emit_10 : decode cX1_emit 10 = .ok (.aload_n 0, 1) := by decide +kernel
theorem dX1_emit_11 : decode cX1_emit 11 = .ok (.dup, 1) := by decide +kernel
theorem dX1_emit_12 : decode cX1_emit 12 = .ok (.getfield 48, 3) := by decide +kernel
theorem dX1_emit_15 : decode cX1_emit 15 = .ok (.iload_n 2, 1) := by decide +kernel
theorem dX1_emit_16 : decode cX1_emit 16 = .ok (.i2l, 1) := by decide +kernel
theorem dX1_emit_17 : decode cX1_emit 17 = .ok (.ladd, 1) := by decide +kernel
theorem dX1_emit_18 : decode cX1_emit 18 = .ok (.putfield 48, 3) := by decide +kernel
theorem dX1_emit_21 : decode cX1_emit 21 = .ok (.aload_n 0, 1) := by decide +kernel
theorem dX1_emit_22 : decode cX1_emit 22 = .ok (.iload_n 1, 1) := by decide +kernel
theorem dX1_emit_23 : decode cX1_emit 23 = .ok (.iconst 0, 1) := by decide +kernel
theorem dX1_emit_24 : decode cX1_emit 24 = .ok (.aload_n 0, 1) := by decide +kernel
theorem dX1_emit_25 : decode cX1_emit 25 = .ok (.getfield 31, 3) := by decide +kernel
theorem dX1_emit_28 : decode cX1_emit 28 = .ok (.getfield 95, 3) := by decide +kernel
theorem dX1_emit_31 : decode cX1_emit 31 = .ok (.iload_n 1, 1) := by decide +kernel
theorem dX1_emit_32 : decode cX1_emit 32 = .ok (.iaload, 1) := by decide +kernel
theorem dX1_emit_33 : decode cX1_emit 33 = .ok (.iload_n 2, 1) := by decide +kernel
theorem dX1_emit_34 : decode cX1_emit 34 = .ok (.i2l, 1) := by decide +kernel
theorem dX1_emit_35 : decode cX1_emit 35 = .ok (.invokevirtual 98, 3) := by decide +kernel
theorem dX1_emit_38 : decode cX1_emit 38 = .ok (.return_, 1) := by decide +kernel
set_option maxRecDepth 20000 in
theorem ggX1_guide_X1_slotOf : GoodIn wsX1_guide wsX1_slotOf := goodIn_r _ [11, 12, 13, 14, 15] (by decide +kernel) (by decide +kernel)
set_option maxRecDepth 20000 in
theorem gX1_guide_X1_slotOf : GoodIn wsX1_guide (va_wsS RX1 102 yX1_slotOf wsX1_slotOf) := goodIn_app (goodIn_of _ (by decide +kernel)) ggX1_guide_X1_slotOf
set_option maxRecDepth 20000 in
theorem ggX1_guide_X1_take : GoodIn wsX1_guide wsX1_take := goodIn_r _ [19, 20, 21, 22, 23, 31, 32, 33, 34, 35, 36, 37, 38, 39, 40, 41, 42, 43] (by decide +kernel) (by decide +kernel)
set_option maxRecDepth 20000 in
theorem gX1_guide_X1_take : GoodIn wsX1_guide (wsV RX1 106 RX1 yX1_take wsX1_take) := goodIn_app (goodIn_of _ (by decide +kernel)) ggX1_guide_X1_take
set_option maxRecDepth 20000 in
theorem ggX1_guide_X1_give : GoodIn wsX1_guide wsX1_give := goodIn_r _ [27, 1, 28, 29, 30, 21, 22, 23, 31, 32, 33, 34, 35, 36, 37, 38, 39, 40, 41, 42, 43, 44, 45, 46, 47, 48, 49, 50] (by decide +kernel) (by decide +kernel)
set_option maxRecDepth 20000 in
theorem gX1_guide_X1_give : GoodIn wsX1_guide (wsV RX1 98 RX1 yX1_give wsX1_give) := goodIn_app (goodIn_of _ (by decide +kernel)) ggX1_guide_X1_give
theorem dX1_guide_0 : decode cX1_guide 0 = .ok (.aload_n 0, 1) := by decide +kernel
theorem dX1_guide_1 : decode cX1_guide 1 = .ok (.getfield 31, 3) := by decide +kernel
theorem dX1_guide_4 : decode cX1_guide 4 = .ok (.getfield 92, 3) := by decide +kernel
theorem dX1_guide_7 : decode cX1_guide 7 = .ok (.iload_n 1, 1) := by decide +kernel
theorem dX1_guide_8 : decode cX1_guide 8 = .ok (.iaload, 1) := by decide +kernel
theorem dX1_guide_9 : decode cX1_guide 9 = .ok (.istore_n 2, 1) := by decide +kernel
theorem dX1_guide_10 : decode cX1_guide 10 = .ok (.aload_n 0, 1) := by decide +kernel
theorem dX1_guide_11 : decode cX1_guide 11 = .ok (.getfield 31, 3) := by decide +kernel
theorem dX1_guide_14 : decode cX1_guide 14 = .ok (.getfield 95, 3) := by decide +kernel
theorem dX1_guide_17 : decode cX1_guide 17 = .ok (.iload_n 1, 1) := by decide +kernel
theorem dX1_guide_18 : decode cX1_guide 18 = .ok (.iaload, 1) := by decide +kernel
theorem dX1_guide_19 : decode cX1_guide 19 = .ok (.iconst 1, 1) := by decide +kernel
theorem dX1_guide_20 : decode cX1_guide 20 = .ok (.isub, 1) := by decide +kernel
theorem dX1_guide_21 : decode cX1_guide 21 = .ok (.istore_n 3, 1) := by decide +kernel
theorem dX1_guide_22 : decode cX1_guide 22 = .ok (.iload_n 1, 1) := by decide +kernel
theorem dX1_guide_23 : decode cX1_guide 23 = .ok (.aload_n 0, 1) := by decide +kernel
theorem dX1_guide_24 : decode cX1_guide 24 = .ok (.getfield 45, 3) := by decide +kernel
theorem dX1_guide_27 : decode cX1_guide 27 = .ok (.invokestatic 102, 3) := by decide +kernel
theorem dX1_guide_30 : decode cX1_guide 30 = .ok (.istore 4, 2) := by decide +kernel
theorem dX1_guide_32 : decode cX1_guide 32 = .ok (.iload_n 1, 1) := by decide +kernel
theorem dX1_guide_33 : decode cX1_guide 33 = .ok (.aload_n 0, 1) := by decide +kernel
theorem dX1_guide_34 : decode cX1_guide 34 = .ok (.getfield 45, 3) := by decide +kernel
theorem dX1_guide_37 : decode cX1_guide 37 = .ok (.iload_n 3, 1) := by decide +kernel
theorem dX1_guide_38 : decode cX1_guide 38 = .ok (.isub, 1) := by decide +kernel
theorem dX1_guide_39 : decode cX1_guide 39 = .ok (.invokestatic 102, 3) := by decide +kernel
theorem dX1_guide_42 : decode cX1_guide 42 = .ok (.istore 5, 2) := by decide +kernel
theorem dX1_guide_44 : decode cX1_guide 44 = .ok (.iconst 0, 1) := by decide +kernel
theorem dX1_guide_45 : decode cX1_guide 45 = .ok (.istore 6, 2) := by decide +kernel
theorem dX1_guide_47 : decode cX1_guide 47 = .ok (.iload 6, 2) := by decide +kernel
theorem dX1_guide_49 : decode cX1_guide 49 = .ok (.bipush 8, 2) := by decide +kernel
theorem dX1_guide_51 : decode cX1_guide 51 = .ok (.if_icmp .ge 74, 3) := by decide +kernel
theorem dX1_guide_54 : decode cX1_guide 54 = .ok (.aload_n 0, 1) := by decide +kernel
theorem dX1_guide_55 : decode cX1_guide 55 = .ok (.iload_n 1, 1) := by decide +kernel
theorem dX1_guide_56 : decode cX1_guide 56 = .ok (.iconst 0, 1) := by decide +kernel
theorem dX1_guide_57 : decode cX1_guide 57 = .ok (.iload 6, 2) := by decide +kernel
theorem dX1_guide_59 : decode cX1_guide 59 = .ok (.invokevirtual 106, 3) := by decide +kernel
theorem dX1_guide_62 : decode cX1_guide 62 = .ok (.lstore 7, 2) := by decide +kernel
theorem dX1_guide_64 : decode cX1_guide 64 = .ok (.lload 7, 2) := by decide +kernel
theorem dX1_guide_66 : decode cX1_guide 66 = .ok (.iload_n 2, 1) := by decide +kernel
theorem dX1_guide_67 : decode cX1_guide 67 = .ok (.i2l, 1) := by decide +kernel
theorem dX1_guide_68 : decode cX1_guide 68 = .ok (.lmul, 1) := by decide +kernel
theorem dX1_guide_69 : decode cX1_guide 69 = .ok (.ldc2_w 110, 3) := by decide +kernel
theorem dX1_guide_72 : decode cX1_guide 72 = .ok (.ldiv, 1) := by decide +kernel
theorem dX1_guide_73 : decode cX1_guide 73 = .ok (.lstore 9, 2) := by decide +kernel
theorem dX1_guide_75 : decode cX1_guide 75 = .ok (.aload_n 0, 1) := by decide +kernel
theorem dX1_guide_76 : decode cX1_guide 76 = .ok (.dup, 1) := by decide +kernel
theorem dX1_guide_77 : decode cX1_guide 77 = .ok (.getfield 52, 3) := by decide +kernel
theorem dX1_guide_80 : decode cX1_guide 80 = .ok (.lload 9, 2) := by decide +kernel
theorem dX1_guide_82 : decode cX1_guide 82 = .ok (.ladd, 1) := by decide +kernel
theorem dX1_guide_83 : decode cX1_guide 83 = .ok (.putfield 52, 3) := by decide +kernel
theorem dX1_guide_86 : decode cX1_guide 86 = .ok (.aload_n 0, 1) := by decide +kernel
theorem dX1_guide_87 : decode cX1_guide 87 = .ok (.getfield 18, 3) := by decide +kernel
theorem dX1_guide_90 : decode cX1_guide 90 = .ok (.iload 4, 2) := by decide +kernel
theorem dX1_guide_92 : decode cX1_guide 92 = .ok (.iload 6, 2) := by decide +kernel
theorem dX1_guide_94 : decode cX1_guide 94 = .ok (.iadd, 1) := by decide +kernel
theorem dX1_guide_95 : decode cX1_guide 95 = .ok (.lload 7, 2) := by decide +kernel
theorem dX1_guide_97 : decode cX1_guide 97 = .ok (.lload 9, 2) := by decide +kernel
theorem dX1_guide_99 : decode cX1_guide 99 = .ok (.lsub, 1) := by decide +kernel
theorem dX1_guide_100 : decode cX1_guide 100 = .ok (.lastore, 1) := by decide +kernel
theorem dX1_guide_101 : decode cX1_guide 101 = .ok (.aload_n 0, 1) := by decide +kernel
theorem dX1_guide_102 : decode cX1_guide 102 = .ok (.iload_n 1, 1) := by decide +kernel
theorem dX1_guide_103 : decode cX1_guide 103 = .ok (.iconst 0, 1) := by decide +kernel
theorem dX1_guide_104 : decode cX1_guide 104 = .ok (.iload 6, 2) := by decide +kernel
theorem dX1_guide_106 : decode cX1_guide 106 = .ok (.aload_n 0, 1) := by decide +kernel
theorem dX1_guide_107 : decode cX1_guide 107 = .ok (.getfield 18, 3) := by decide +kernel
theorem dX1_guide_110 : decode cX1_guide 110 = .ok (.iload 5, 2) := by decide +kernel
theorem dX1_guide_112 : decode cX1_guide 112 = .ok (.iload 6, 2) := by decide +kernel
theorem dX1_guide_114 : decode cX1_guide 114 = .ok (.iadd, 1) := by decide +kernel
theorem dX1_guide_115 : decode cX1_guide 115 = .ok (.laload, 1) := by decide +kernel
theorem dX1_guide_116 : decode cX1_guide 116 = .ok (.invokevirtual 98, 3) := by decide +kernel
theorem dX1_guide_119 : decode cX1_guide 119 = .ok (.iinc 6 1, 3) := by decide +kernel
theorem dX1_guide_122 : decode cX1_guide 122 = .ok (.goto (-75), 3) := by decide +kernel
theorem dX1_guide_125 : decode cX1_guide 125 = .ok (.return_, 1) := by decide +kernel
set_option maxRecDepth 20000 in
theorem ggX1_slotOf_J9_floorMod_7cf53 : GoodIn wsX1_slotOf wsJ9_floorMod_7cf53 := goodIn_r _ [4] (by decide +kernel) (by decide +kernel)
set_option maxRecDepth 20000 in
theorem gX1_slotOf_J9_floorMod_7cf53 : GoodIn wsX1_slotOf (va_wsS RX1 112 yJ9_floorMod_7cf53 wsJ9_floorMod_7cf53) := goodIn_app (goodIn_of _ (by decide +kernel)) ggX1_slotOf_J9_floorMod_7cf53
theorem dX1_slotOf_0 : decode cX1_slotOf 0 = .ok (.iload_n 0, 1) := by decide +kernel
theorem dX1_slotOf_1 : decode cX1_slotOf 1 = .ok (.bipush 8, 2) := by decide +kernel
theorem dX1_slotOf_3 : decode cX1_slotOf 3 = .ok (.imul, 1) := by decide +kernel
theorem dX1_slotOf_4 : decode cX1_slotOf 4 = .ok (.iload_n 1, 1) := by decide +kernel
theorem dX1_slotOf_5 : decode cX1_slotOf 5 = .ok (.bipush 8, 2) := by decide +kernel
theorem dX1_slotOf_7 : decode cX1_slotOf 7 = .ok (.invokestatic 112, 3) := by decide +kernel
theorem dX1_slotOf_10 : decode cX1_slotOf 10 = .ok (.iadd, 1) := by decide +kernel
theorem dX1_slotOf_11 : decode cX1_slotOf 11 = .ok (.bipush 8, 2) := by decide +kernel
theorem dX1_slotOf_13 : decode cX1_slotOf 13 = .ok (.imul, 1) := by decide +kernel
theorem dX1_slotOf_14 : decode cX1_slotOf 14 = .ok (.ireturn, 1) := by decide +kernel
set_option maxRecDepth 20000 in
theorem ggX1_couple_X1_center : GoodIn wsX1_couple wsX1_center := goodIn_r _ [10, 1, 11, 12, 13, 14, 15, 16, 17, 36, 37, 38, 39, 40, 41, 42, 43, 44, 45, 46, 47, 48, 49, 50, 51, 52, 53, 54, 55] (by decide +kernel) (by decide +kernel)
set_option maxRecDepth 20000 in
theorem gX1_couple_X1_center : GoodIn wsX1_couple (wsV RX1 117 RX1 yX1_center wsX1_center) := goodIn_app (goodIn_of _ (by decide +kernel)) ggX1_couple_X1_center
set_option maxRecDepth 20000 in
theorem ggX1_couple_X1_take : GoodIn wsX1_couple wsX1_take := goodIn_r _ [21, 22, 23, 24, 25, 36, 37, 38, 39, 40, 41, 42, 43, 44, 45, 46, 47, 48] (by decide +kernel) (by decide +kernel)
set_option maxRecDepth 20000 in
theorem gX1_couple_X1_take : GoodIn wsX1_couple (wsV RX1 106 RX1 yX1_take wsX1_take) := goodIn_app (goodIn_of _ (by decide +kernel)) ggX1_couple_X1_take
set_option maxRecDepth 20000 in
theorem ggX1_couple_X1_ringShare : GoodIn wsX1_couple wsX1_ringShare := goodIn_r _ [28, 14, 15, 16, 17] (by decide +kernel) (by decide +kernel)
set_option maxRecDepth 20000 in
theorem gX1_couple_X1_ringShare : GoodIn wsX1_couple (va_wsS RX1 120 yX1_ringShare wsX1_ringShare) := goodIn_app (goodIn_of _ (by decide +kernel)) ggX1_couple_X1_ringShare
set_option maxRecDepth 20000 in
theorem ggX1_couple_X1_give : GoodIn wsX1_couple wsX1_give := goodIn_r _ [32, 1, 33, 34, 35, 23, 24, 25, 36, 37, 38, 39, 40, 41, 42, 43, 44, 45, 46, 47, 48, 49, 50, 51, 52, 53, 54, 55] (by decide +kernel) (by decide +kernel)
set_option maxRecDepth 20000 in
theorem gX1_couple_X1_give : GoodIn wsX1_couple (wsV RX1 98 RX1 yX1_give wsX1_give) := goodIn_app (goodIn_of _ (by decide +kernel)) ggX1_couple_X1_give
theorem dX1_couple_0 : decode cX1_couple 0 = .ok (.aload_n 0, 1) := by decide +kernel
theorem dX1_couple_1 : decode cX1_couple 1 = .ok (.getfield 31, 3) := by decide +kernel
theorem dX1_couple_4 : decode cX1_couple 4 = .ok (.getfield 66, 3) := by decide +kernel
theorem dX1_couple_7 : decode cX1_couple 7 = .ok (.iload_n 1, 1) := by decide +kernel
theorem dX1_couple_8 : decode cX1_couple 8 = .ok (.iaload, 1) := by decide +kernel
theorem dX1_couple_9 : decode cX1_couple 9 = .ok (.iconst 3, 1) := by decide +kernel
theorem dX1_couple_10 : decode cX1_couple 10 = .ok (.if_icmp .ne 7, 3) := by decide +kernel
theorem dX1_couple_13 : decode cX1_couple 13 = .ok (.iconst 1, 1) := by decide +kernel
theorem dX1_couple_14 : decode cX1_couple 14 = .ok (.goto 4, 3) := by decide +kernel
theorem dX1_couple_17 : decode cX1_couple 17 = .ok (.iconst 0, 1) := by decide +kernel
theorem dX1_couple_18 : decode cX1_couple 18 = .ok (.istore_n 2, 1) := by decide +kernel
theorem dX1_couple_19 : decode cX1_couple 19 = .ok (.aload_n 0, 1) := by decide +kernel
theorem dX1_couple_20 : decode cX1_couple 20 = .ok (.iload_n 1, 1) := by decide +kernel
theorem dX1_couple_21 : decode cX1_couple 21 = .ok (.invokevirtual 117, 3) := by decide +kernel
theorem dX1_couple_24 : decode cX1_couple 24 = .ok (.istore_n 3, 1) := by decide +kernel
theorem dX1_couple_25 : decode cX1_couple 25 = .ok (.iconst 0, 1) := by decide +kernel
theorem dX1_couple_26 : decode cX1_couple 26 = .ok (.istore 4, 2) := by decide +kernel
theorem dX1_couple_28 : decode cX1_couple 28 = .ok (.iload 4, 2) := by decide +kernel
theorem dX1_couple_30 : decode cX1_couple 30 = .ok (.bipush 8, 2) := by decide +kernel
theorem dX1_couple_32 : decode cX1_couple 32 = .ok (.if_icmp .ge 157, 3) := by decide +kernel
theorem dX1_couple_35 : decode cX1_couple 35 = .ok (.aload_n 0, 1) := by decide +kernel
theorem dX1_couple_36 : decode cX1_couple 36 = .ok (.iload_n 1, 1) := by decide +kernel
theorem dX1_couple_37 : decode cX1_couple 37 = .ok (.iconst 0, 1) := by decide +kernel
theorem dX1_couple_38 : decode cX1_couple 38 = .ok (.iload 4, 2) := by decide +kernel
theorem dX1_couple_40 : decode cX1_couple 40 = .ok (.invokevirtual 106, 3) := by decide +kernel
theorem dX1_couple_43 : decode cX1_couple 43 = .ok (.lstore 5, 2) := by decide +kernel
theorem dX1_couple_45 : decode cX1_couple 45 = .ok (.aload_n 0, 1) := by decide +kernel
theorem dX1_couple_46 : decode cX1_couple 46 = .ok (.iload_n 1, 1) := by decide +kernel
theorem dX1_couple_47 : decode cX1_couple 47 = .ok (.iconst 1, 1) := by decide +kernel
theorem dX1_couple_48 : decode cX1_couple 48 = .ok (.iload 4, 2) := by decide +kernel
theorem dX1_couple_50 : decode cX1_couple 50 = .ok (.invokevirtual 106, 3) := by decide +kernel
theorem dX1_couple_53 : decode cX1_couple 53 = .ok (.lstore 7, 2) := by decide +kernel
theorem dX1_couple_55 : decode cX1_couple 55 = .ok (.aload_n 0, 1) := by decide +kernel
theorem dX1_couple_56 : decode cX1_couple 56 = .ok (.getfield 21, 3) := by decide +kernel
theorem dX1_couple_59 : decode cX1_couple 59 = .ok (.iload_n 1, 1) := by decide +kernel
theorem dX1_couple_60 : decode cX1_couple 60 = .ok (.bipush 8, 2) := by decide +kernel
theorem dX1_couple_62 : decode cX1_couple 62 = .ok (.imul, 1) := by decide +kernel
theorem dX1_couple_63 : decode cX1_couple 63 = .ok (.iload 4, 2) := by decide +kernel
theorem dX1_couple_65 : decode cX1_couple 65 = .ok (.iadd, 1) := by decide +kernel
theorem dX1_couple_66 : decode cX1_couple 66 = .ok (.lconst 0, 1) := by decide +kernel
theorem dX1_couple_67 : decode cX1_couple 67 = .ok (.lastore, 1) := by decide +kernel
theorem dX1_couple_68 : decode cX1_couple 68 = .ok (.lload 5, 2) := by decide +kernel
theorem dX1_couple_70 : decode cX1_couple 70 = .ok (.lconst 0, 1) := by decide +kernel
theorem dX1_couple_71 : decode cX1_couple 71 = .ok (.lcmp, 1) := by decide +kernel
theorem dX1_couple_72 : decode cX1_couple 72 = .ok (.ifCond .ne 13, 3) := by decide +kernel
theorem dX1_couple_75 : decode cX1_couple 75 = .ok (.lload 7, 2) := by decide +kernel
theorem dX1_couple_77 : decode cX1_couple 77 = .ok (.lconst 0, 1) := by decide +kernel
theorem dX1_couple_78 : decode cX1_couple 78 = .ok (.lcmp, 1) := by decide +kernel
theorem dX1_couple_79 : decode cX1_couple 79 = .ok (.ifCond .ne 6, 3) := by decide +kernel
theorem dX1_couple_82 : decode cX1_couple 82 = .ok (.goto 101, 3) := by decide +kernel
theorem dX1_couple_85 : decode cX1_couple 85 = .ok (.iload_n 2, 1) := by decide +kernel
theorem dX1_couple_86 : decode cX1_couple 86 = .ok (.ifCond .eq 13, 3) := by decide +kernel
theorem dX1_couple_89 : decode cX1_couple 89 = .ok (.iload 4, 2) := by decide +kernel
theorem dX1_couple_91 : decode cX1_couple 91 = .ok (.iload_n 3, 1) := by decide +kernel
theorem dX1_couple_92 : decode cX1_couple 92 = .ok (.isub, 1) := by decide +kernel
theorem dX1_couple_93 : decode cX1_couple 93 = .ok (.invokestatic 120, 3) := by decide +kernel
theorem dX1_couple_96 : decode cX1_couple 96 = .ok (.goto 12, 3) := by decide +kernel
theorem dX1_couple_99 : decode cX1_couple 99 = .ok (.aload_n 0, 1) := by decide +kernel
theorem dX1_couple_100 : decode cX1_couple 100 = .ok (.getfield 31, 3) := by decide +kernel
theorem dX1_couple_103 : decode cX1_couple 103 = .ok (.getfield 92, 3) := by decide +kernel
theorem dX1_couple_106 : decode cX1_couple 106 = .ok (.iload_n 1, 1) := by decide +kernel
theorem dX1_couple_107 : decode cX1_couple 107 = .ok (.iaload, 1) := by decide +kernel
theorem dX1_couple_108 : decode cX1_couple 108 = .ok (.istore 9, 2) := by decide +kernel
theorem dX1_couple_110 : decode cX1_couple 110 = .ok (.lload 5, 2) := by decide +kernel
theorem dX1_couple_112 : decode cX1_couple 112 = .ok (.iload 9, 2) := by decide +kernel
theorem dX1_couple_114 : decode cX1_couple 114 = .ok (.i2l, 1) := by decide +kernel
theorem dX1_couple_115 : decode cX1_couple 115 = .ok (.lmul, 1) := by decide +kernel
theorem dX1_couple_116 : decode cX1_couple 116 = .ok (.ldc2_w 110, 3) := by decide +kernel
theorem dX1_couple_119 : decode cX1_couple 119 = .ok (.ldiv, 1) := by decide +kernel
theorem dX1_couple_120 : decode cX1_couple 120 = .ok (.lstore 10, 2) := by decide +kernel
theorem dX1_couple_122 : decode cX1_couple 122 = .ok (.lload 7, 2) := by decide +kernel
theorem dX1_couple_124 : decode cX1_couple 124 = .ok (.iload 9, 2) := by decide +kernel
theorem dX1_couple_126 : decode cX1_couple 126 = .ok (.i2l, 1) := by decide +kernel
theorem dX1_couple_127 : decode cX1_couple 127 = .ok (.lmul, 1) := by decide +kernel
theorem dX1_couple_128 : decode cX1_couple 128 = .ok (.ldc2_w 110, 3) := by decide +kernel
theorem dX1_couple_131 : decode cX1_couple 131 = .ok (.ldiv, 1) := by decide +kernel
theorem dX1_couple_132 : decode cX1_couple 132 = .ok (.lstore 12, 2) := by decide +kernel
theorem dX1_couple_134 : decode cX1_couple 134 = .ok (.aload_n 0, 1) := by decide +kernel
theorem dX1_couple_135 : decode cX1_couple 135 = .ok (.iload_n 1, 1) := by decide +kernel
theorem dX1_couple_136 : decode cX1_couple 136 = .ok (.iconst 0, 1) := by decide +kernel
theorem dX1_couple_137 : decode cX1_couple 137 = .ok (.iload 4, 2) := by decide +kernel
theorem dX1_couple_139 : decode cX1_couple 139 = .ok (.lload 5, 2) := by decide +kernel
theorem dX1_couple_141 : decode cX1_couple 141 = .ok (.lload 10, 2) := by decide +kernel
theorem dX1_couple_143 : decode cX1_couple 143 = .ok (.lsub, 1) := by decide +kernel
theorem dX1_couple_144 : decode cX1_couple 144 = .ok (.lload 12, 2) := by decide +kernel
theorem dX1_couple_146 : decode cX1_couple 146 = .ok (.ladd, 1) := by decide +kernel
theorem dX1_couple_147 : decode cX1_couple 147 = .ok (.invokevirtual 98, 3) := by decide +kernel
theorem dX1_couple_150 : decode cX1_couple 150 = .ok (.aload_n 0, 1) := by decide +kernel
theorem dX1_couple_151 : decode cX1_couple 151 = .ok (.iload_n 1, 1) := by decide +kernel
theorem dX1_couple_152 : decode cX1_couple 152 = .ok (.iconst 1, 1) := by decide +kernel
theorem dX1_couple_153 : decode cX1_couple 153 = .ok (.iload 4, 2) := by decide +kernel
theorem dX1_couple_155 : decode cX1_couple 155 = .ok (.lload 7, 2) := by decide +kernel
theorem dX1_couple_157 : decode cX1_couple 157 = .ok (.lload 12, 2) := by decide +kernel
theorem dX1_couple_159 : decode cX1_couple 159 = .ok (.lsub, 1) := by decide +kernel
theorem dX1_couple_160 : decode cX1_couple 160 = .ok (.lload 10, 2) := by decide +kernel
theorem dX1_couple_162 : decode cX1_couple 162 = .ok (.ladd, 1) := by decide +kernel
theorem dX1_couple_163 : decode cX1_couple 163 = .ok (.invokevirtual 98, 3) := by decide +kernel
theorem dX1_couple_166 : decode cX1_couple 166 = .ok (.aload_n 0, 1) := by decide +kernel
theorem dX1_couple_167 : decode cX1_couple 167 = .ok (.getfield 21, 3) := by decide +kernel
theorem dX1_couple_170 : decode cX1_couple 170 = .ok (.iload_n 1, 1) := by decide +kernel
theorem dX1_couple_171 : decode cX1_couple 171 = .ok (.bipush 8, 2) := by decide +kernel
theorem dX1_couple_173 : decode cX1_couple 173 = .ok (.imul, 1) := by decide +kernel
theorem dX1_couple_174 : decode cX1_couple 174 = .ok (.iload 4, 2) := by decide +kernel
theorem dX1_couple_176 : decode cX1_couple 176 = .ok (.iadd, 1) := by decide +kernel
theorem dX1_couple_177 : decode cX1_couple 177 = .ok (.lload 10, 2) := by decide +kernel
theorem dX1_couple_179 : decode cX1_couple 179 = .ok (.lload 12, 2) := by decide +kernel
theorem dX1_couple_181 : decode cX1_couple 181 = .ok (.ladd, 1) := by decide +kernel
theorem dX1_couple_182 : decode cX1_couple 182 = .ok (.lastore, 1) := by decide +kernel
theorem dX1_couple_183 : decode cX1_couple 183 = .ok (.iinc 4 1, 3) := by decide +kernel
theorem dX1_couple_186 : decode cX1_couple 186 = .ok (.goto (-158), 3) := by decide +kernel
theorem dX1_couple_189 : decode cX1_couple 189 = .ok (.return_, 1) := by decide +kernel
set_option maxRecDepth 20000 in
theorem ggX1_ringShare_J9_floorMod_7cf53 : GoodIn wsX1_ringShare wsJ9_floorMod_7cf53 := goodIn_r _ [4] (by decide +kernel) (by decide +kernel)
set_option maxRecDepth 20000 in
theorem gX1_ringShare_J9_floorMod_7cf53 : GoodIn wsX1_ringShare (va_wsS RX1 112 yJ9_floorMod_7cf53 wsJ9_floorMod_7cf53) := goodIn_app (goodIn_of _ (by decide +kernel)) ggX1_ringShare_J9_floorMod_7cf53
theorem dX1_ringShare_0 : decode cX1_ringShare 0 = .ok (.iload_n 0, 1) := by decide +kernel
theorem dX1_ringShare_1 : decode cX1_ringShare 1 = .ok (.bipush 8, 2) := by decide +kernel
theorem dX1_ringShare_3 : decode cX1_ringShare 3 = .ok (.invokestatic 112, 3) := by decide +kernel
theorem dX1_ringShare_6 : decode cX1_ringShare 6 = .ok (.istore_n 1, 1) := by decide +kernel
theorem dX1_ringShare_7 : decode cX1_ringShare 7 = .ok (.iload_n 1, 1) := by decide +kernel
theorem dX1_ringShare_8 : decode cX1_ringShare 8 = .ok (.ifCond .ne 6, 3) := by decide +kernel
theorem dX1_ringShare_11 : decode cX1_ringShare 11 = .ok (.bipush 90, 2) := by decide +kernel
theorem dX1_ringShare_13 : decode cX1_ringShare 13 = .ok (.ireturn, 1) := by decide +kernel
theorem dX1_ringShare_14 : decode cX1_ringShare 14 = .ok (.iload_n 1, 1) := by decide +kernel
theorem dX1_ringShare_15 : decode cX1_ringShare 15 = .ok (.iconst 1, 1) := by decide +kernel
theorem dX1_ringShare_16 : decode cX1_ringShare 16 = .ok (.if_icmp .eq 9, 3) := by decide +kernel
theorem dX1_ringShare_19 : decode cX1_ringShare 19 = .ok (.iload_n 1, 1) := by decide +kernel
theorem dX1_ringShare_20 : decode cX1_ringShare 20 = .ok (.bipush 7, 2) := by decide +kernel
theorem dX1_ringShare_22 : decode cX1_ringShare 22 = .ok (.if_icmp .ne 8, 3) := by decide +kernel
theorem dX1_ringShare_25 : decode cX1_ringShare 25 = .ok (.bipush 20, 2) := by decide +kernel
theorem dX1_ringShare_27 : decode cX1_ringShare 27 = .ok (.goto 4, 3) := by decide +kernel
theorem dX1_ringShare_30 : decode cX1_ringShare 30 = .ok (.iconst 0, 1) := by decide +kernel
theorem dX1_ringShare_31 : decode cX1_ringShare 31 = .ok (.ireturn, 1) := by decide +kernel
set_option maxRecDepth 20000 in
theorem ggX1_center_J9_floorMod_7cf53 : GoodIn wsX1_center wsJ9_floorMod_7cf53 := goodIn_r _ [8] (by decide +kernel) (by decide +kernel)
set_option maxRecDepth 20000 in
theorem gX1_center_J9_floorMod_7cf53 : GoodIn wsX1_center (va_wsS RX1 112 yJ9_floorMod_7cf53 wsJ9_floorMod_7cf53) := goodIn_app (goodIn_of _ (by decide +kernel)) ggX1_center_J9_floorMod_7cf53
theorem dX1_center_0 : decode cX1_center 0 = .ok (.aload_n 0, 1) := by decide +kernel
theorem dX1_center_1 : decode cX1_center 1 = .ok (.getfield 31, 3) := by decide +kernel
theorem dX1_center_4 : decode cX1_center 4 = .ok (.getfield 95, 3) := by decide +kernel
theorem dX1_center_7 : decode cX1_center 7 = .ok (.iload_n 1, 1) := by decide +kernel
theorem dX1_center_8 : decode cX1_center 8 = .ok (.iaload, 1) := by decide +kernel
theorem dX1_center_9 : decode cX1_center 9 = .ok (.aload_n 0, 1) := by decide +kernel
theorem dX1_center_10 : decode cX1_center 10 = .ok (.getfield 41, 3) := by decide +kernel
theorem dX1_center_13 : decode cX1_center 13 = .ok (.iadd, 1) := by decide +kernel
theorem dX1_center_14 : decode cX1_center 14 = .ok (.aload_n 0, 1) := by decide +kernel
theorem dX1_center_15 : decode cX1_center 15 = .ok (.getfield 27, 3) := by decide +kernel
theorem dX1_center_18 : decode cX1_center 18 = .ok (.iload_n 1, 1) := by decide +kernel
theorem dX1_center_19 : decode cX1_center 19 = .ok (.iaload, 1) := by decide +kernel
theorem dX1_center_20 : decode cX1_center 20 = .ok (.bipush 16, 2) := by decide +kernel
theorem dX1_center_22 : decode cX1_center 22 = .ok (.idiv, 1) := by decide +kernel
theorem dX1_center_23 : decode cX1_center 23 = .ok (.iadd, 1) := by decide +kernel
theorem dX1_center_24 : decode cX1_center 24 = .ok (.bipush 8, 2) := by decide +kernel
theorem dX1_center_26 : decode cX1_center 26 = .ok (.invokestatic 112, 3) := by decide +kernel
theorem dX1_center_29 : decode cX1_center 29 = .ok (.ireturn, 1) := by decide +kernel
set_option maxRecDepth 20000 in
theorem ggX1_pass_X1_take : GoodIn wsX1_pass wsX1_take := goodIn_r _ [9, 10, 11, 12, 13, 21, 22, 23, 24, 25, 26, 27, 28, 29, 30, 31, 32, 33] (by decide +kernel) (by decide +kernel)
set_option maxRecDepth 20000 in
theorem gX1_pass_X1_take : GoodIn wsX1_pass (wsV RX1 106 RX1 yX1_take wsX1_take) := goodIn_app (goodIn_of _ (by decide +kernel)) ggX1_pass_X1_take
set_option maxRecDepth 20000 in
theorem ggX1_pass_X1_give : GoodIn wsX1_pass wsX1_give := goodIn_r _ [17, 1, 18, 19, 20, 11, 12, 13, 21, 22, 23, 24, 25, 26, 27, 28, 29, 30, 31, 32, 33, 34, 35, 36, 37, 38, 39, 40] (by decide +kernel) (by decide +kernel)
set_option maxRecDepth 20000 in
theorem gX1_pass_X1_give : GoodIn wsX1_pass (wsV RX1 98 RX1 yX1_give wsX1_give) := goodIn_app (goodIn_of _ (by decide +kernel)) ggX1_pass_X1_give
theorem dX1_pass_0 : decode cX1_pass 0 = .ok (.aload_n 0, 1) := by decide +kernel
theorem dX1_pass_1 : decode cX1_pass 1 = .ok (.getfield 31, 3) := by decide +kernel
theorem dX1_pass_4 : decode cX1_pass 4 = .ok (.getfield 92, 3) := by decide +kernel
theorem dX1_pass_7 : decode cX1_pass 7 = .ok (.iload_n 1, 1) := by decide +kernel
theorem dX1_pass_8 : decode cX1_pass 8 = .ok (.iaload, 1) := by decide +kernel
theorem dX1_pass_9 : decode cX1_pass 9 = .ok (.aload_n 0, 1) := by decide +kernel
theorem dX1_pass_10 : decode cX1_pass 10 = .ok (.getfield 45, 3) := by decide +kernel
theorem dX1_pass_13 : decode cX1_pass 13 = .ok (.bipush 8, 2) := by decide +kernel
theorem dX1_pass_15 : decode cX1_pass 15 = .ok (.irem, 1) := by decide +kernel
theorem dX1_pass_16 : decode cX1_pass 16 = .ok (.ishr, 1) := by decide +kernel
theorem dX1_pass_17 : decode cX1_pass 17 = .ok (.iconst 1, 1) := by decide +kernel
theorem dX1_pass_18 : decode cX1_pass 18 = .ok (.iand, 1) := by decide +kernel
theorem dX1_pass_19 : decode cX1_pass 19 = .ok (.iconst 1, 1) := by decide +kernel
theorem dX1_pass_20 : decode cX1_pass 20 = .ok (.if_icmp .ne 7, 3) := by decide +kernel
theorem dX1_pass_23 : decode cX1_pass 23 = .ok (.iconst 1, 1) := by decide +kernel
theorem dX1_pass_24 : decode cX1_pass 24 = .ok (.goto 4, 3) := by decide +kernel
theorem dX1_pass_27 : decode cX1_pass 27 = .ok (.iconst 0, 1) := by decide +kernel
theorem dX1_pass_28 : decode cX1_pass 28 = .ok (.istore_n 2, 1) := by decide +kernel
theorem dX1_pass_29 : decode cX1_pass 29 = .ok (.iconst 0, 1) := by decide +kernel
theorem dX1_pass_30 : decode cX1_pass 30 = .ok (.istore_n 3, 1) := by decide +kernel
theorem dX1_pass_31 : decode cX1_pass 31 = .ok (.iload_n 3, 1) := by decide +kernel
theorem dX1_pass_32 : decode cX1_pass 32 = .ok (.bipush 8, 2) := by decide +kernel
theorem dX1_pass_34 : decode cX1_pass 34 = .ok (.if_icmp .ge 45, 3) := by decide +kernel
theorem dX1_pass_37 : decode cX1_pass 37 = .ok (.aload_n 0, 1) := by decide +kernel
theorem dX1_pass_38 : decode cX1_pass 38 = .ok (.iload_n 1, 1) := by decide +kernel
theorem dX1_pass_39 : decode cX1_pass 39 = .ok (.iconst 0, 1) := by decide +kernel
theorem dX1_pass_40 : decode cX1_pass 40 = .ok (.iload_n 3, 1) := by decide +kernel
theorem dX1_pass_41 : decode cX1_pass 41 = .ok (.invokevirtual 106, 3) := by decide +kernel
theorem dX1_pass_44 : decode cX1_pass 44 = .ok (.lstore 4, 2) := by decide +kernel
theorem dX1_pass_46 : decode cX1_pass 46 = .ok (.iload_n 2, 1) := by decide +kernel
theorem dX1_pass_47 : decode cX1_pass 47 = .ok (.ifCond .eq 15, 3) := by decide +kernel
theorem dX1_pass_50 : decode cX1_pass 50 = .ok (.aload_n 0, 1) := by decide +kernel
theorem dX1_pass_51 : decode cX1_pass 51 = .ok (.iload_n 1, 1) := by decide +kernel
theorem dX1_pass_52 : decode cX1_pass 52 = .ok (.iconst 0, 1) := by decide +kernel
theorem dX1_pass_53 : decode cX1_pass 53 = .ok (.iload_n 3, 1) := by decide +kernel
theorem dX1_pass_54 : decode cX1_pass 54 = .ok (.lload 4, 2) := by decide +kernel
theorem dX1_pass_56 : decode cX1_pass 56 = .ok (.invokevirtual 98, 3) := by decide +kernel
theorem dX1_pass_59 : decode cX1_pass 59 = .ok (.goto 14, 3) := by decide +kernel
theorem dX1_pass_62 : decode cX1_pass 62 = .ok (.aload_n 0, 1) := by decide +kernel
theorem dX1_pass_63 : decode cX1_pass 63 = .ok (.dup, 1) := by decide +kernel
theorem dX1_pass_64 : decode cX1_pass 64 = .ok (.getfield 52, 3) := by decide +kernel
theorem dX1_pass_67 : decode cX1_pass 67 = .ok (.lload 4, 2) := by decide +kernel
theorem dX1_pass_69 : decode cX1_pass 69 = .ok (.ladd, 1) := by decide +kernel
theorem dX1_pass_70 : decode cX1_pass 70 = .ok (.putfield 52, 3) := by decide +kernel
theorem dX1_pass_73 : decode cX1_pass 73 = .ok (.iinc 3 1, 3) := by decide +kernel
theorem dX1_pass_76 : decode cX1_pass 76 = .ok (.goto (-45), 3) := by decide +kernel
theorem dX1_pass_79 : decode cX1_pass 79 = .ok (.return_, 1) := by decide +kernel
set_option maxRecDepth 20000 in
theorem ggX1_detect_X1_take : GoodIn wsX1_detect wsX1_take := goodIn_r _ [7, 8, 9, 10, 11, 12, 13, 14, 15, 16, 17, 18, 19, 20, 21, 22, 23, 24] (by decide +kernel) (by decide +kernel)
set_option maxRecDepth 20000 in
theorem gX1_detect_X1_take : GoodIn wsX1_detect (wsV RX1 106 RX1 yX1_take wsX1_take) := goodIn_app (goodIn_of _ (by decide +kernel)) ggX1_detect_X1_take
theorem dX1_detect_0 : decode cX1_detect 0 = .ok (.iconst 0, 1) := by decide +kernel
theorem dX1_detect_1 : decode cX1_detect 1 = .ok (.istore_n 2, 1) := by decide +kernel
theorem dX1_detect_2 : decode cX1_detect 2 = .ok (.iload_n 2, 1) := by decide +kernel
theorem dX1_detect_3 : decode cX1_detect 3 = .ok (.bipush 8, 2) := by decide +kernel
theorem dX1_detect_5 : decode cX1_detect 5 = .ok (.if_icmp .ge 42, 3) := by decide +kernel
theorem dX1_detect_8 : decode cX1_detect 8 = .ok (.aload_n 0, 1) := by decide +kernel
theorem dX1_detect_9 : decode cX1_detect 9 = .ok (.iload_n 1, 1) := by decide +kernel
theorem dX1_detect_10 : decode cX1_detect 10 = .ok (.iconst 0, 1) := by decide +kernel
theorem dX1_detect_11 : decode cX1_detect 11 = .ok (.iload_n 2, 1) := by decide +kernel
theorem dX1_detect_12 : decode cX1_detect 12 = .ok (.invokevirtual 106, 3) := by decide +kernel
theorem dX1_detect_15 : decode cX1_detect 15 = .ok (.lstore_n 3, 1) := by decide +kernel
theorem dX1_detect_16 : decode cX1_detect 16 = .ok (.aload_n 0, 1) := by decide +kernel
theorem dX1_detect_17 : decode cX1_detect 17 = .ok (.dup, 1) := by decide +kernel
theorem dX1_detect_18 : decode cX1_detect 18 = .ok (.getfield 58, 3) := by decide +kernel
theorem dX1_detect_21 : decode cX1_detect 21 = .ok (.lload_n 3, 1) := by decide +kernel
theorem dX1_detect_22 : decode cX1_detect 22 = .ok (.ladd, 1) := by decide +kernel
theorem dX1_detect_23 : decode cX1_detect 23 = .ok (.putfield 58, 3) := by decide +kernel
theorem dX1_detect_26 : decode cX1_detect 26 = .ok (.aload_n 0, 1) := by decide +kernel
theorem dX1_detect_27 : decode cX1_detect 27 = .ok (.getfield 24, 3) := by decide +kernel
theorem dX1_detect_30 : decode cX1_detect 30 = .ok (.iload_n 1, 1) := by decide +kernel
theorem dX1_detect_31 : decode cX1_detect 31 = .ok (.bipush 8, 2) := by decide +kernel
theorem dX1_detect_33 : decode cX1_detect 33 = .ok (.imul, 1) := by decide +kernel
theorem dX1_detect_34 : decode cX1_detect 34 = .ok (.iload_n 2, 1) := by decide +kernel
theorem dX1_detect_35 : decode cX1_detect 35 = .ok (.iadd, 1) := by decide +kernel
theorem dX1_detect_36 : decode cX1_detect 36 = .ok (.dup2, 1) := by decide +kernel
theorem dX1_detect_37 : decode cX1_detect 37 = .ok (.laload, 1) := by decide +kernel
theorem dX1_detect_38 : decode cX1_detect 38 = .ok (.lload_n 3, 1) := by decide +kernel
theorem dX1_detect_39 : decode cX1_detect 39 = .ok (.ladd, 1) := by decide +kernel
theorem dX1_detect_40 : decode cX1_detect 40 = .ok (.lastore, 1) := by decide +kernel
theorem dX1_detect_41 : decode cX1_detect 41 = .ok (.iinc 2 1, 3) := by decide +kernel
theorem dX1_detect_44 : decode cX1_detect 44 = .ok (.goto (-42), 3) := by decide +kernel
theorem dX1_detect_47 : decode cX1_detect 47 = .ok (.return_, 1) := by decide +kernel
set_option maxRecDepth 20000 in
theorem ggX1_take_X3_portOf : GoodIn wsX1_take wsX3_portOf := goodIn_r _ [4] (by decide +kernel) (by decide +kernel)
set_option maxRecDepth 20000 in
theorem gX1_take_X3_portOf_n123 : GoodIn wsX1_take (wsX3_portOf) := ggX1_take_X3_portOf
theorem dX1_take_0 : decode cX1_take 0 = .ok (.iload_n 1, 1) := by decide +kernel
theorem dX1_take_1 : decode cX1_take 1 = .ok (.iload_n 2, 1) := by decide +kernel
theorem dX1_take_2 : decode cX1_take 2 = .ok (.invokestatic 123, 3) := by decide +kernel
theorem dX1_take_5 : decode cX1_take 5 = .ok (.bipush 8, 2) := by decide +kernel
theorem dX1_take_7 : decode cX1_take 7 = .ok (.imul, 1) := by decide +kernel
theorem dX1_take_8 : decode cX1_take 8 = .ok (.iload_n 3, 1) := by decide +kernel
theorem dX1_take_9 : decode cX1_take 9 = .ok (.iadd, 1) := by decide +kernel
theorem dX1_take_10 : decode cX1_take 10 = .ok (.istore 4, 2) := by decide +kernel
theorem dX1_take_12 : decode cX1_take 12 = .ok (.iload 4, 2) := by decide +kernel
theorem dX1_take_14 : decode cX1_take 14 = .ok (.ifCond .lt 13, 3) := by decide +kernel
theorem dX1_take_17 : decode cX1_take 17 = .ok (.iload 4, 2) := by decide +kernel
theorem dX1_take_19 : decode cX1_take 19 = .ok (.aload_n 0, 1) := by decide +kernel
theorem dX1_take_20 : decode cX1_take 20 = .ok (.getfield 9, 3) := by decide +kernel
theorem dX1_take_23 : decode cX1_take 23 = .ok (.arraylength, 1) := by decide +kernel
theorem dX1_take_24 : decode cX1_take 24 = .ok (.if_icmp .lt 5, 3) := by decide +kernel
theorem dX1_take_27 : decode cX1_take 27 = .ok (.lconst 0, 1) := by decide +kernel
theorem dX1_take_28 : decode cX1_take 28 = .ok (.lreturn, 1) := by decide +kernel
theorem dX1_take_29 : decode cX1_take 29 = .ok (.aload_n 0, 1) := by decide +kernel
theorem dX1_take_30 : decode cX1_take 30 = .ok (.getfield 9, 3) := by decide +kernel
theorem dX1_take_33 : decode cX1_take 33 = .ok (.iload 4, 2) := by decide +kernel
theorem dX1_take_35 : decode cX1_take 35 = .ok (.laload, 1) := by decide +kernel
theorem dX1_take_36 : decode cX1_take 36 = .ok (.lstore 5, 2) := by decide +kernel
theorem dX1_take_38 : decode cX1_take 38 = .ok (.aload_n 0, 1) := by decide +kernel
theorem dX1_take_39 : decode cX1_take 39 = .ok (.getfield 9, 3) := by decide +kernel
theorem dX1_take_42 : decode cX1_take 42 = .ok (.iload 4, 2) := by decide +kernel
theorem dX1_take_44 : decode cX1_take 44 = .ok (.lconst 0, 1) := by decide +kernel
theorem dX1_take_45 : decode cX1_take 45 = .ok (.lastore, 1) := by decide +kernel
theorem dX1_take_46 : decode cX1_take 46 = .ok (.lload 5, 2) := by decide +kernel
theorem dX1_take_48 : decode cX1_take 48 = .ok (.lreturn, 1) := by decide +kernel
set_option maxRecDepth 20000 in
theorem ggX1_give_X3_portOf : GoodIn wsX1_give wsX3_portOf := goodIn_r _ [7] (by decide +kernel) (by decide +kernel)
set_option maxRecDepth 20000 in
theorem gX1_give_X3_portOf_n123 : GoodIn wsX1_give (wsX3_portOf) := ggX1_give_X3_portOf
theorem dX1_give_0 : decode cX1_give 0 = .ok (.aload_n 0, 1) := by decide +kernel
theorem dX1_give_1 : decode cX1_give 1 = .ok (.getfield 31, 3) := by decide +kernel
theorem dX1_give_4 : decode cX1_give 4 = .ok (.getfield 126, 3) := by decide +kernel
theorem dX1_give_7 : decode cX1_give 7 = .ok (.iload_n 1, 1) := by decide +kernel
theorem dX1_give_8 : decode cX1_give 8 = .ok (.iload_n 2, 1) := by decide +kernel
theorem dX1_give_9 : decode cX1_give 9 = .ok (.invokestatic 123, 3) := by decide +kernel
theorem dX1_give_12 : decode cX1_give 12 = .ok (.iaload, 1) := by decide +kernel
theorem dX1_give_13 : decode cX1_give 13 = .ok (.istore 6, 2) := by decide +kernel
theorem dX1_give_15 : decode cX1_give 15 = .ok (.iload 6, 2) := by decide +kernel
theorem dX1_give_17 : decode cX1_give 17 = .ok (.ifCond .lt 10, 3) := by decide +kernel
theorem dX1_give_20 : decode cX1_give 20 = .ok (.iload 6, 2) := by decide +kernel
theorem dX1_give_22 : decode cX1_give 22 = .ok (.bipush 32, 2) := by decide +kernel
theorem dX1_give_24 : decode cX1_give 24 = .ok (.if_icmp .lt 17, 3) := by decide +kernel
theorem dX1_give_27 : decode cX1_give 27 = .ok (.aload_n 0, 1) := by decide +kernel
theorem dX1_give_28 : decode cX1_give 28 = .ok (.dup, 1) := by decide +kernel
theorem dX1_give_29 : decode cX1_give 29 = .ok (.getfield 55, 3) := by decide +kernel
theorem dX1_give_32 : decode cX1_give 32 = .ok (.lload 4, 2) := by decide +kernel
theorem dX1_give_34 : decode cX1_give 34 = .ok (.ladd, 1) := by decide +kernel
theorem dX1_give_35 : decode cX1_give 35 = .ok (.putfield 55, 3) := by decide +kernel
theorem dX1_give_38 : decode cX1_give 38 = .ok (.goto 20, 3) := by decide +kernel
theorem dX1_give_41 : decode cX1_give 41 = .ok (.aload_n 0, 1) := by decide +kernel
theorem dX1_give_42 : decode cX1_give 42 = .ok (.getfield 15, 3) := by decide +kernel
theorem dX1_give_45 : decode cX1_give 45 = .ok (.iload 6, 2) := by decide +kernel
theorem dX1_give_47 : decode cX1_give 47 = .ok (.bipush 8, 2) := by decide +kernel
theorem dX1_give_49 : decode cX1_give 49 = .ok (.imul, 1) := by decide +kernel
theorem dX1_give_50 : decode cX1_give 50 = .ok (.iload_n 3, 1) := by decide +kernel
theorem dX1_give_51 : decode cX1_give 51 = .ok (.iadd, 1) := by decide +kernel
theorem dX1_give_52 : decode cX1_give 52 = .ok (.dup2, 1) := by decide +kernel
theorem dX1_give_53 : decode cX1_give 53 = .ok (.laload, 1) := by decide +kernel
theorem dX1_give_54 : decode cX1_give 54 = .ok (.lload 4, 2) := by decide +kernel
theorem dX1_give_56 : decode cX1_give 56 = .ok (.ladd, 1) := by decide +kernel
theorem dX1_give_57 : decode cX1_give 57 = .ok (.lastore, 1) := by decide +kernel
theorem dX1_give_58 : decode cX1_give 58 = .ok (.return_, 1) := by decide +kernel
theorem dX1_seenInAll_0 : decode cX1_seenInAll 0 = .ok (.lconst 0, 1) := by decide +kernel
theorem dX1_seenInAll_1 : decode cX1_seenInAll 1 = .ok (.lstore_n 2, 1) := by decide +kernel
theorem dX1_seenInAll_2 : decode cX1_seenInAll 2 = .ok (.iconst 0, 1) := by decide +kernel
theorem dX1_seenInAll_3 : decode cX1_seenInAll 3 = .ok (.istore 4, 2) := by decide +kernel
theorem dX1_seenInAll_5 : decode cX1_seenInAll 5 = .ok (.iload 4, 2) := by decide +kernel
theorem dX1_seenInAll_7 : decode cX1_seenInAll 7 = .ok (.bipush 8, 2) := by decide +kernel
theorem dX1_seenInAll_9 : decode cX1_seenInAll 9 = .ok (.if_icmp .ge 24, 3) := by decide +kernel
theorem dX1_seenInAll_12 : decode cX1_seenInAll 12 = .ok (.lload_n 2, 1) := by decide +kernel
theorem dX1_seenInAll_13 : decode cX1_seenInAll 13 = .ok (.aload_n 0, 1) := by decide +kernel
theorem dX1_seenInAll_14 : decode cX1_seenInAll 14 = .ok (.getfield 24, 3) := by decide +kernel
theorem dX1_seenInAll_17 : decode cX1_seenInAll 17 = .ok (.iload_n 1, 1) := by decide +kernel
theorem dX1_seenInAll_18 : decode cX1_seenInAll 18 = .ok (.bipush 8, 2) := by decide +kernel
theorem dX1_seenInAll_20 : decode cX1_seenInAll 20 = .ok (.imul, 1) := by decide +kernel
theorem dX1_seenInAll_21 : decode cX1_seenInAll 21 = .ok (.iload 4, 2) := by decide +kernel
theorem dX1_seenInAll_23 : decode cX1_seenInAll 23 = .ok (.iadd, 1) := by decide +kernel
theorem dX1_seenInAll_24 : decode cX1_seenInAll 24 = .ok (.laload, 1) := by decide +kernel
theorem dX1_seenInAll_25 : decode cX1_seenInAll 25 = .ok (.ladd, 1) := by decide +kernel
theorem dX1_seenInAll_26 : decode cX1_seenInAll 26 = .ok (.lstore_n 2, 1) := by decide +kernel
theorem dX1_seenInAll_27 : decode cX1_seenInAll 27 = .ok (.iinc 4 1, 3) := by decide +kernel
theorem dX1_seenInAll_30 : decode cX1_seenInAll 30 = .ok (.goto (-25), 3) := by decide +kernel
theorem dX1_seenInAll_33 : decode cX1_seenInAll 33 = .ok (.lload_n 2, 1) := by decide +kernel
theorem dX1_seenInAll_34 : decode cX1_seenInAll 34 = .ok (.lreturn, 1) := by decide +kernel
set_option maxRecDepth 20000 in
theorem ggX1_warm_X0_target : GoodIn wsX1_warm wsX0_target := goodIn_r _ [9, 10, 11, 12, 13, 14, 15, 16, 17, 18, 19, 8, 20, 21, 22, 23, 24, 25, 43, 44, 45, 46, 47, 48, 49] (by decide +kernel) (by decide +kernel)
set_option maxRecDepth 20000 in
theorem gX1_warm_X0_target : GoodIn wsX1_warm (wsV RX1 69 RX0 yX0_target wsX0_target) := goodIn_app (goodIn_of _ (by decide +kernel)) ggX1_warm_X0_target
set_option maxRecDepth 20000 in
theorem ggX1_warm_X1_step : GoodIn wsX1_warm wsX1_step := goodIn_r _ [29] (by decide +kernel) (by decide +kernel)
set_option maxRecDepth 20000 in
theorem gX1_warm_X1_step : GoodIn wsX1_warm (va_wsS RX1 129 yX1_step wsX1_step) := goodIn_app (goodIn_of _ (by decide +kernel)) ggX1_warm_X1_step
theorem dX1_warm_0 : decode cX1_warm 0 = .ok (.iconst 0, 1) := by decide +kernel
theorem dX1_warm_1 : decode cX1_warm 1 = .ok (.istore_n 1, 1) := by decide +kernel
theorem dX1_warm_2 : decode cX1_warm 2 = .ok (.iload_n 1, 1) := by decide +kernel
theorem dX1_warm_3 : decode cX1_warm 3 = .ok (.aload_n 0, 1) := by decide +kernel
theorem dX1_warm_4 : decode cX1_warm 4 = .ok (.getfield 31, 3) := by decide +kernel
theorem dX1_warm_7 : decode cX1_warm 7 = .ok (.getfield 61, 3) := by decide +kernel
theorem dX1_warm_10 : decode cX1_warm 10 = .ok (.if_icmp .ge 49, 3) := by decide +kernel
theorem dX1_warm_13 : decode cX1_warm 13 = .ok (.aload_n 0, 1) := by decide +kernel
theorem dX1_warm_14 : decode cX1_warm 14 = .ok (.getfield 31, 3) := by decide +kernel
theorem dX1_warm_17 : decode cX1_warm 17 = .ok (.getfield 66, 3) := by decide +kernel
theorem dX1_warm_20 : decode cX1_warm 20 = .ok (.iload_n 1, 1) := by decide +kernel
theorem dX1_warm_21 : decode cX1_warm 21 = .ok (.iaload, 1) := by decide +kernel
theorem dX1_warm_22 : decode cX1_warm 22 = .ok (.iconst 3, 1) := by decide +kernel
theorem dX1_warm_23 : decode cX1_warm 23 = .ok (.if_icmp .ne 30, 3) := by decide +kernel
theorem dX1_warm_26 : decode cX1_warm 26 = .ok (.aload_n 0, 1) := by decide +kernel
theorem dX1_warm_27 : decode cX1_warm 27 = .ok (.getfield 27, 3) := by decide +kernel
theorem dX1_warm_30 : decode cX1_warm 30 = .ok (.iload_n 1, 1) := by decide +kernel
theorem dX1_warm_31 : decode cX1_warm 31 = .ok (.dup2, 1) := by decide +kernel
theorem dX1_warm_32 : decode cX1_warm 32 = .ok (.iaload, 1) := by decide +kernel
theorem dX1_warm_33 : decode cX1_warm 33 = .ok (.aload_n 0, 1) := by decide +kernel
theorem dX1_warm_34 : decode cX1_warm 34 = .ok (.getfield 31, 3) := by decide +kernel
theorem dX1_warm_37 : decode cX1_warm 37 = .ok (.iload_n 1, 1) := by decide +kernel
theorem dX1_warm_38 : decode cX1_warm 38 = .ok (.invokevirtual 69, 3) := by decide +kernel
theorem dX1_warm_41 : decode cX1_warm 41 = .ok (.aload_n 0, 1) := by decide +kernel
theorem dX1_warm_42 : decode cX1_warm 42 = .ok (.getfield 27, 3) := by decide +kernel
theorem dX1_warm_45 : decode cX1_warm 45 = .ok (.iload_n 1, 1) := by decide +kernel
theorem dX1_warm_46 : decode cX1_warm 46 = .ok (.iaload, 1) := by decide +kernel
theorem dX1_warm_47 : decode cX1_warm 47 = .ok (.isub, 1) := by decide +kernel
theorem dX1_warm_48 : decode cX1_warm 48 = .ok (.invokestatic 129, 3) := by decide +kernel
theorem dX1_warm_51 : decode cX1_warm 51 = .ok (.iadd, 1) := by decide +kernel
theorem dX1_warm_52 : decode cX1_warm 52 = .ok (.iastore, 1) := by decide +kernel
theorem dX1_warm_53 : decode cX1_warm 53 = .ok (.iinc 1 1, 3) := by decide +kernel
theorem dX1_warm_56 : decode cX1_warm 56 = .ok (.goto (-54), 3) := by decide +kernel
theorem dX1_warm_59 : decode cX1_warm 59 = .ok (.return_, 1) := by decide +kernel
theorem dX1_step_0 : decode cX1_step 0 = .ok (.iload_n 0, 1) := by decide +kernel
theorem dX1_step_1 : decode cX1_step 1 = .ok (.iconst 4, 1) := by decide +kernel
theorem dX1_step_2 : decode cX1_step 2 = .ok (.idiv, 1) := by decide +kernel
theorem dX1_step_3 : decode cX1_step 3 = .ok (.istore_n 1, 1) := by decide +kernel
theorem dX1_step_4 : decode cX1_step 4 = .ok (.iload_n 1, 1) := by decide +kernel
theorem dX1_step_5 : decode cX1_step 5 = .ok (.ifCond .ne 17, 3) := by decide +kernel
theorem dX1_step_8 : decode cX1_step 8 = .ok (.iload_n 0, 1) := by decide +kernel
theorem dX1_step_9 : decode cX1_step 9 = .ok (.ifCond .eq 13, 3) := by decide +kernel
theorem dX1_step_12 : decode cX1_step 12 = .ok (.iload_n 0, 1) := by decide +kernel
theorem dX1_step_13 : decode cX1_step 13 = .ok (.ifCond .le 7, 3) := by decide +kernel
theorem dX1_step_16 : decode cX1_step 16 = .ok (.iconst 1, 1) := by decide +kernel
theorem dX1_step_17 : decode cX1_step 17 = .ok (.goto 4, 3) := by decide +kernel
theorem dX1_step_20 : decode cX1_step 20 = .ok (.iconst (-1), 1) := by decide +kernel
theorem dX1_step_21 : decode cX1_step 21 = .ok (.ireturn, 1) := by decide +kernel
theorem dX1_step_22 : decode cX1_step 22 = .ok (.iload_n 1, 1) := by decide +kernel
theorem dX1_step_23 : decode cX1_step 23 = .ok (.ireturn, 1) := by decide +kernel
set_option maxRecDepth 20000 in
theorem ggX2_init_J7_fill_53178 : GoodIn wsX2_init wsJ7_fill_53178 := goodIn_r _ [16] (by decide +kernel) (by decide +kernel)
set_option maxRecDepth 20000 in
theorem gX2_init_J7_fill_53178 : GoodIn wsX2_init (va_wsS RX2 36 yJ7_fill_53178 wsJ7_fill_53178) := goodIn_app (goodIn_of _ (by decide +kernel)) ggX2_init_J7_fill_53178
theorem dX2_init_0 : decode cX2_init 0 = .ok (.aload_n 0, 1) := by decide +kernel
theorem dX2_init_1 : decode cX2_init 1 = .ok (.invokespecial 3, 3) := by decide +kernel
theorem dX2_init_4 : decode cX2_init 4 = .ok (.aload_n 0, 1) := by decide +kernel
theorem dX2_init_5 : decode cX2_init 5 = .ok (.bipush 16, 2) := by decide +kernel
theorem dX2_init_7 : decode cX2_init 7 = .ok (.newarray .int, 2) := by decide +kernel
theorem dX2_init_9 : decode cX2_init 9 = .ok (.putfield 9, 3) := by decide +kernel
theorem dX2_init_12 : decode cX2_init 12 = .ok (.aload_n 0, 1) := by decide +kernel
theorem dX2_init_13 : decode cX2_init 13 = .ok (.bipush 16, 2) := by decide +kernel
theorem dX2_init_15 : decode cX2_init 15 = .ok (.newarray .int, 2) := by decide +kernel
theorem dX2_init_17 : decode cX2_init 17 = .ok (.putfield 15, 3) := by decide +kernel
theorem dX2_init_20 : decode cX2_init 20 = .ok (.aload_n 0, 1) := by decide +kernel
theorem dX2_init_21 : decode cX2_init 21 = .ok (.bipush 16, 2) := by decide +kernel
theorem dX2_init_23 : decode cX2_init 23 = .ok (.newarray .int, 2) := by decide +kernel
theorem dX2_init_25 : decode cX2_init 25 = .ok (.putfield 18, 3) := by decide +kernel
theorem dX2_init_28 : decode cX2_init 28 = .ok (.aload_n 0, 1) := by decide +kernel
theorem dX2_init_29 : decode cX2_init 29 = .ok (.bipush 16, 2) := by decide +kernel
theorem dX2_init_31 : decode cX2_init 31 = .ok (.newarray .int, 2) := by decide +kernel
theorem dX2_init_33 : decode cX2_init 33 = .ok (.putfield 21, 3) := by decide +kernel
theorem dX2_init_36 : decode cX2_init 36 = .ok (.aload_n 0, 1) := by decide +kernel
theorem dX2_init_37 : decode cX2_init 37 = .ok (.bipush 16, 2) := by decide +kernel
theorem dX2_init_39 : decode cX2_init 39 = .ok (.newarray .long, 2) := by decide +kernel
theorem dX2_init_41 : decode cX2_init 41 = .ok (.putfield 24, 3) := by decide +kernel
theorem dX2_init_44 : decode cX2_init 44 = .ok (.aload_n 0, 1) := by decide +kernel
theorem dX2_init_45 : decode cX2_init 45 = .ok (.aload_n 1, 1) := by decide +kernel
theorem dX2_init_46 : decode cX2_init 46 = .ok (.putfield 28, 3) := by decide +kernel
theorem dX2_init_49 : decode cX2_init 49 = .ok (.aload_n 0, 1) := by decide +kernel
theorem dX2_init_50 : decode cX2_init 50 = .ok (.aload_n 2, 1) := by decide +kernel
theorem dX2_init_51 : decode cX2_init 51 = .ok (.putfield 32, 3) := by decide +kernel
theorem dX2_init_54 : decode cX2_init 54 = .ok (.aload_n 0, 1) := by decide +kernel
theorem dX2_init_55 : decode cX2_init 55 = .ok (.getfield 9, 3) := by decide +kernel
theorem dX2_init_58 : decode cX2_init 58 = .ok (.iconst (-1), 1) := by decide +kernel
theorem dX2_init_59 : decode cX2_init 59 = .ok (.invokestatic 36, 3) := by decide +kernel
theorem dX2_init_62 : decode cX2_init 62 = .ok (.return_, 1) := by decide +kernel
theorem dX2_begin_0 : decode cX2_begin 0 = .ok (.aload_n 0, 1) := by decide +kernel
theorem dX2_begin_1 : decode cX2_begin 1 = .ok (.getfield 9, 3) := by decide +kernel
theorem dX2_begin_4 : decode cX2_begin 4 = .ok (.iload_n 1, 1) := by decide +kernel
theorem dX2_begin_5 : decode cX2_begin 5 = .ok (.iload_n 2, 1) := by decide +kernel
theorem dX2_begin_6 : decode cX2_begin 6 = .ok (.iastore, 1) := by decide +kernel
theorem dX2_begin_7 : decode cX2_begin 7 = .ok (.aload_n 0, 1) := by decide +kernel
theorem dX2_begin_8 : decode cX2_begin 8 = .ok (.getfield 18, 3) := by decide +kernel
theorem dX2_begin_11 : decode cX2_begin 11 = .ok (.iload_n 1, 1) := by decide +kernel
theorem dX2_begin_12 : decode cX2_begin 12 = .ok (.iconst 1, 1) := by decide +kernel
theorem dX2_begin_13 : decode cX2_begin 13 = .ok (.iastore, 1) := by decide +kernel
theorem dX2_begin_14 : decode cX2_begin 14 = .ok (.aload_n 0, 1) := by decide +kernel
theorem dX2_begin_15 : decode cX2_begin 15 = .ok (.getfield 21, 3) := by decide +kernel
theorem dX2_begin_18 : decode cX2_begin 18 = .ok (.iload_n 1, 1) := by decide +kernel
theorem dX2_begin_19 : decode cX2_begin 19 = .ok (.iconst 0, 1) := by decide +kernel
theorem dX2_begin_20 : decode cX2_begin 20 = .ok (.iastore, 1) := by decide +kernel
theorem dX2_begin_21 : decode cX2_begin 21 = .ok (.aload_n 0, 1) := by decide +kernel
theorem dX2_begin_22 : decode cX2_begin 22 = .ok (.getfield 24, 3) := by decide +kernel
theorem dX2_begin_25 : decode cX2_begin 25 = .ok (.iload_n 1, 1) := by decide +kernel
theorem dX2_begin_26 : decode cX2_begin 26 = .ok (.lconst 0, 1) := by decide +kernel
theorem dX2_begin_27 : decode cX2_begin 27 = .ok (.lastore, 1) := by decide +kernel
theorem dX2_begin_28 : decode cX2_begin 28 = .ok (.return_, 1) := by decide +kernel
set_option maxRecDepth 20000 in
theorem ggX2_hunt_X2_huntOne : GoodIn wsX2_hunt wsX2_huntOne := goodIn_r _ [10, 11, 12, 1, 13, 14, 15, 16, 17, 18, 19, 20, 21, 3, 22, 23, 24, 25, 26, 27, 28, 29, 30, 31, 32, 33, 34, 35, 36] (by decide +kernel) (by decide +kernel)
set_option maxRecDepth 20000 in
theorem gX2_hunt_X2_huntOne : GoodIn wsX2_hunt (wsV RX2 53 RX2 yX2_huntOne wsX2_huntOne) := goodIn_app (goodIn_of _ (by decide +kernel)) ggX2_hunt_X2_huntOne
theorem dX2_hunt_0 : decode cX2_hunt 0 = .ok (.iconst 0, 1) := by decide +kernel
theorem dX2_hunt_1 : decode cX2_hunt 1 = .ok (.istore_n 1, 1) := by decide +kernel
theorem dX2_hunt_2 : decode cX2_hunt 2 = .ok (.iload_n 1, 1) := by decide +kernel
theorem dX2_hunt_3 : decode cX2_hunt 3 = .ok (.aload_n 0, 1) := by decide +kernel
theorem dX2_hunt_4 : decode cX2_hunt 4 = .ok (.getfield 28, 3) := by decide +kernel
theorem dX2_hunt_7 : decode cX2_hunt 7 = .ok (.getfield 42, 3) := by decide +kernel
theorem dX2_hunt_10 : decode cX2_hunt 10 = .ok (.if_icmp .ge 45, 3) := by decide +kernel
theorem dX2_hunt_13 : decode cX2_hunt 13 = .ok (.aload_n 0, 1) := by decide +kernel
theorem dX2_hunt_14 : decode cX2_hunt 14 = .ok (.getfield 9, 3) := by decide +kernel
theorem dX2_hunt_17 : decode cX2_hunt 17 = .ok (.iload_n 1, 1) := by decide +kernel
theorem dX2_hunt_18 : decode cX2_hunt 18 = .ok (.iaload, 1) := by decide +kernel
theorem dX2_hunt_19 : decode cX2_hunt 19 = .ok (.istore_n 2, 1) := by decide +kernel
theorem dX2_hunt_20 : decode cX2_hunt 20 = .ok (.iload_n 2, 1) := by decide +kernel
theorem dX2_hunt_21 : decode cX2_hunt 21 = .ok (.ifCond .lt 28, 3) := by decide +kernel
theorem dX2_hunt_24 : decode cX2_hunt 24 = .ok (.iload_n 2, 1) := by decide +kernel
theorem dX2_hunt_25 : decode cX2_hunt 25 = .ok (.bipush 8, 2) := by decide +kernel
theorem dX2_hunt_27 : decode cX2_hunt 27 = .ok (.if_icmp .ge 22, 3) := by decide +kernel
theorem dX2_hunt_30 : decode cX2_hunt 30 = .ok (.aload_n 0, 1) := by decide +kernel
theorem dX2_hunt_31 : decode cX2_hunt 31 = .ok (.iload_n 1, 1) := by decide +kernel
theorem dX2_hunt_32 : decode cX2_hunt 32 = .ok (.aload_n 0, 1) := by decide +kernel
theorem dX2_hunt_33 : decode cX2_hunt 33 = .ok (.getfield 32, 3) := by decide +kernel
theorem dX2_hunt_36 : decode cX2_hunt 36 = .ok (.getfield 48, 3) := by decide +kernel
theorem dX2_hunt_39 : decode cX2_hunt 39 = .ok (.iload_n 1, 1) := by decide +kernel
theorem dX2_hunt_40 : decode cX2_hunt 40 = .ok (.bipush 8, 2) := by decide +kernel
theorem dX2_hunt_42 : decode cX2_hunt 42 = .ok (.imul, 1) := by decide +kernel
theorem dX2_hunt_43 : decode cX2_hunt 43 = .ok (.iload_n 2, 1) := by decide +kernel
theorem dX2_hunt_44 : decode cX2_hunt 44 = .ok (.iadd, 1) := by decide +kernel
theorem dX2_hunt_45 : decode cX2_hunt 45 = .ok (.laload, 1) := by decide +kernel
theorem dX2_hunt_46 : decode cX2_hunt 46 = .ok (.invokevirtual 53, 3) := by decide +kernel
theorem dX2_hunt_49 : decode cX2_hunt 49 = .ok (.iinc 1 1, 3) := by decide +kernel
theorem dX2_hunt_52 : decode cX2_hunt 52 = .ok (.goto (-50), 3) := by decide +kernel
