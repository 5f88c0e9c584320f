/-! The names of the law's helpers. -/
set_option maxRecDepth 20000 in
theorem ggL_isLed_X3_lead : GoodIn wsL_isLed wsX3_lead := goodIn_ca (goodIn_ca (goodIn_r _ [6, 7, 8, 9, 10, 11, 12, 5, 13, 14, 15, 16, 17, 18, 19, 20, 21, 22, 23, 24, 25, 26, 27, 28, 29, 30, 31, 32, 33, 34, 35, 36, 37, 38, 39, 40, 41, 42, 43, 44, 45, 46, 47, 48, 49, 50, 51, 52, 53, 54, 55] (by decide +kernel) (by decide +kernel)) (goodIn_sub (fun _ h => List.mem_cons_of_mem _ (List.mem_append_left _ (List.mem_append_right _ h))) (by decide +kernel))) (goodIn_sub (fun _ h => List.mem_cons_of_mem _ (List.mem_append_right _ h)) (by decide +kernel))
set_option maxRecDepth 20000 in
theorem gL_isLed_X3_lead : GoodIn wsL_isLed (wsV RL 8 RX3 yX3_lead wsX3_lead) := goodIn_app (goodIn_of _ (by decide +kernel)) ggL_isLed_X3_lead
theorem dL_isLed_0 : decode cL_isLed 0 = .ok (.aload_n 0, 1) := by decide +kernel
theorem dL_isLed_1 : decode cL_isLed 1 = .ok (.iload_n 1, 1) := by decide +kernel
theorem dL_isLed_2 : decode cL_isLed 2 = .ok (.iload_n 2, 1) := by decide +kernel
theorem dL_isLed_3 : decode cL_isLed 3 = .ok (.iload_n 3, 1) := by decide +kernel
theorem dL_isLed_4 : decode cL_isLed 4 = .ok (.iload 4, 2) := by decide +kernel
theorem dL_isLed_6 : decode cL_isLed 6 = .ok (.invokevirtual 8, 3) := by decide +kernel
theorem dL_isLed_9 : decode cL_isLed 9 = .ok (.pop, 1) := by decide +kernel
theorem dL_isLed_10 : decode cL_isLed 10 = .ok (.goto 7, 3) := by decide +kernel
theorem dL_isLed_13 : decode cL_isLed 13 = .ok (.astore 5, 2) := by decide +kernel
theorem dL_isLed_15 : decode cL_isLed 15 = .ok (.iconst 0, 1) := by decide +kernel
theorem dL_isLed_16 : decode cL_isLed 16 = .ok (.ireturn, 1) := by decide +kernel
theorem dL_isLed_17 : decode cL_isLed 17 = .ok (.iconst 1, 1) := by decide +kernel
theorem dL_isLed_18 : decode cL_isLed 18 = .ok (.ireturn, 1) := by decide +kernel
theorem dL_inputs_0 : decode cL_inputs 0 = .ok (.iload_n 0, 1) := by decide +kernel
theorem dL_inputs_1 : decode cL_inputs 1 = .ok (.ifCond .ne 7, 3) := by decide +kernel
theorem dL_inputs_4 : decode cL_inputs 4 = .ok (.iconst 0, 1) := by decide +kernel
theorem dL_inputs_5 : decode cL_inputs 5 = .ok (.goto 18, 3) := by decide +kernel
theorem dL_inputs_8 : decode cL_inputs 8 = .ok (.iload_n 0, 1) := by decide +kernel
theorem dL_inputs_9 : decode cL_inputs 9 = .ok (.iconst 2, 1) := by decide +kernel
theorem dL_inputs_10 : decode cL_inputs 10 = .ok (.if_icmp .eq 8, 3) := by decide +kernel
theorem dL_inputs_13 : decode cL_inputs 13 = .ok (.iload_n 0, 1) := by decide +kernel
theorem dL_inputs_14 : decode cL_inputs 14 = .ok (.iconst 3, 1) := by decide +kernel
theorem dL_inputs_15 : decode cL_inputs 15 = .ok (.if_icmp .ne 7, 3) := by decide +kernel
theorem dL_inputs_18 : decode cL_inputs 18 = .ok (.iconst 2, 1) := by decide +kernel
theorem dL_inputs_19 : decode cL_inputs 19 = .ok (.goto 4, 3) := by decide +kernel
theorem dL_inputs_22 : decode cL_inputs 22 = .ok (.iconst 1, 1) := by decide +kernel
theorem dL_inputs_23 : decode cL_inputs 23 = .ok (.ireturn, 1) := by decide +kernel
theorem dL_outputs_0 : decode cL_outputs 0 = .ok (.iload_n 0, 1) := by decide +kernel
theorem dL_outputs_1 : decode cL_outputs 1 = .ok (.iconst 5, 1) := by decide +kernel
theorem dL_outputs_2 : decode cL_outputs 2 = .ok (.if_icmp .ne 7, 3) := by decide +kernel
theorem dL_outputs_5 : decode cL_outputs 5 = .ok (.iconst 0, 1) := by decide +kernel
theorem dL_outputs_6 : decode cL_outputs 6 = .ok (.goto 18, 3) := by decide +kernel
theorem dL_outputs_9 : decode cL_outputs 9 = .ok (.iload_n 0, 1) := by decide +kernel
theorem dL_outputs_10 : decode cL_outputs 10 = .ok (.iconst 2, 1) := by decide +kernel
theorem dL_outputs_11 : decode cL_outputs 11 = .ok (.if_icmp .eq 8, 3) := by decide +kernel
theorem dL_outputs_14 : decode cL_outputs 14 = .ok (.iload_n 0, 1) := by decide +kernel
theorem dL_outputs_15 : decode cL_outputs 15 = .ok (.iconst 3, 1) := by decide +kernel
theorem dL_outputs_16 : decode cL_outputs 16 = .ok (.if_icmp .ne 7, 3) := by decide +kernel
theorem dL_outputs_19 : decode cL_outputs 19 = .ok (.iconst 2, 1) := by decide +kernel
theorem dL_outputs_20 : decode cL_outputs 20 = .ok (.goto 4, 3) := by decide +kernel
theorem dL_outputs_23 : decode cL_outputs 23 = .ok (.iconst 1, 1) := by decide +kernel
theorem dL_outputs_24 : decode cL_outputs 24 = .ok (.ireturn, 1) := by decide +kernel
theorem dL_far_0 : decode cL_far 0 = .ok (.aload_n 0, 1) := by decide +kernel
theorem dL_far_1 : decode cL_far 1 = .ok (.iconst 2, 1) := by decide +kernel
theorem dL_far_2 : decode cL_far 2 = .ok (.iload_n 1, 1) := by decide +kernel
theorem dL_far_3 : decode cL_far 3 = .ok (.imul, 1) := by decide +kernel
theorem dL_far_4 : decode cL_far 4 = .ok (.iaload, 1) := by decide +kernel
theorem dL_far_5 : decode cL_far 5 = .ok (.aload_n 0, 1) := by decide +kernel
theorem dL_far_6 : decode cL_far 6 = .ok (.iconst 2, 1) := by decide +kernel
theorem dL_far_7 : decode cL_far 7 = .ok (.iload_n 2, 1) := by decide +kernel
theorem dL_far_8 : decode cL_far 8 = .ok (.imul, 1) := by decide +kernel
theorem dL_far_9 : decode cL_far 9 = .ok (.iaload, 1) := by decide +kernel
theorem dL_far_10 : decode cL_far 10 = .ok (.isub, 1) := by decide +kernel
theorem dL_far_11 : decode cL_far 11 = .ok (.istore_n 3, 1) := by decide +kernel
theorem dL_far_12 : decode cL_far 12 = .ok (.aload_n 0, 1) := by decide +kernel
theorem dL_far_13 : decode cL_far 13 = .ok (.iconst 2, 1) := by decide +kernel
theorem dL_far_14 : decode cL_far 14 = .ok (.iload_n 1, 1) := by decide +kernel
theorem dL_far_15 : decode cL_far 15 = .ok (.imul, 1) := by decide +kernel
theorem dL_far_16 : decode cL_far 16 = .ok (.iconst 1, 1) := by decide +kernel
theorem dL_far_17 : decode cL_far 17 = .ok (.iadd, 1) := by decide +kernel
theorem dL_far_18 : decode cL_far 18 = .ok (.iaload, 1) := by decide +kernel
theorem dL_far_19 : decode cL_far 19 = .ok (.aload_n 0, 1) := by decide +kernel
theorem dL_far_20 : decode cL_far 20 = .ok (.iconst 2, 1) := by decide +kernel
theorem dL_far_21 : decode cL_far 21 = .ok (.iload_n 2, 1) := by decide +kernel
theorem dL_far_22 : decode cL_far 22 = .ok (.imul, 1) := by decide +kernel
theorem dL_far_23 : decode cL_far 23 = .ok (.iconst 1, 1) := by decide +kernel
theorem dL_far_24 : decode cL_far 24 = .ok (.iadd, 1) := by decide +kernel
theorem dL_far_25 : decode cL_far 25 = .ok (.iaload, 1) := by decide +kernel
theorem dL_far_26 : decode cL_far 26 = .ok (.isub, 1) := by decide +kernel
theorem dL_far_27 : decode cL_far 27 = .ok (.istore 4, 2) := by decide +kernel
theorem dL_far_29 : decode cL_far 29 = .ok (.iload_n 3, 1) := by decide +kernel
theorem dL_far_30 : decode cL_far 30 = .ok (.ifCond .ge 8, 3) := by decide +kernel
theorem dL_far_33 : decode cL_far 33 = .ok (.iload_n 3, 1) := by decide +kernel
theorem dL_far_34 : decode cL_far 34 = .ok (.ineg, 1) := by decide +kernel
theorem dL_far_35 : decode cL_far 35 = .ok (.goto 4, 3) := by decide +kernel
theorem dL_far_38 : decode cL_far 38 = .ok (.iload_n 3, 1) := by decide +kernel
theorem dL_far_39 : decode cL_far 39 = .ok (.iload 4, 2) := by decide +kernel
theorem dL_far_41 : decode cL_far 41 = .ok (.ifCond .ge 9, 3) := by decide +kernel
theorem dL_far_44 : decode cL_far 44 = .ok (.iload 4, 2) := by decide +kernel
theorem dL_far_46 : decode cL_far 46 = .ok (.ineg, 1) := by decide +kernel
theorem dL_far_47 : decode cL_far 47 = .ok (.goto 5, 3) := by decide +kernel
theorem dL_far_50 : decode cL_far 50 = .ok (.iload 4, 2) := by decide +kernel
theorem dL_far_52 : decode cL_far 52 = .ok (.iadd, 1) := by decide +kernel
theorem dL_far_53 : decode cL_far 53 = .ok (.ireturn, 1) := by decide +kernel
set_option maxRecDepth 20000 in
theorem ggL_target_X3_ofPart : GoodIn wsL_target wsX3_ofPart := goodIn_ca (goodIn_ca (goodIn_r _ [5, 6, 7, 8, 9, 10, 11, 12, 13, 14, 15, 16, 4, 17, 18, 19, 20, 21, 22, 23, 24, 25, 26, 27, 28, 29, 30, 31, 32, 33, 34, 35, 36, 37, 38, 43, 44, 45, 46, 47, 48, 49, 50, 51, 52, 53, 54, 55, 56, 57, 58, 59, 60, 61, 62, 63, 64, 65, 66, 67, 68, 69, 70, 71, 72, 73, 74] (by decide +kernel) (by decide +kernel)) (goodIn_sub (fun _ h => List.mem_cons_of_mem _ (List.mem_append_left _ (List.mem_append_right _ h))) (by decide +kernel))) (goodIn_sub (fun _ h => List.mem_cons_of_mem _ (List.mem_append_right _ h)) (by decide +kernel))
set_option maxRecDepth 20000 in
theorem gL_target_X3_ofPart : GoodIn wsL_target (wsV RL 16 RX3 yX3_ofPart wsX3_ofPart) := goodIn_app (goodIn_of _ (by decide +kernel)) ggL_target_X3_ofPart
set_option maxRecDepth 20000 in
theorem ggL_target_L_far : GoodIn wsL_target wsL_far := goodIn_r _ [42] (by decide +kernel) (by decide +kernel)
set_option maxRecDepth 20000 in
theorem gL_target_L_far : GoodIn wsL_target (va_wsS RL 20 yL_far wsL_far) := goodIn_app (goodIn_of _ (by decide +kernel)) ggL_target_L_far
theorem dL_target_0 : decode cL_target 0 = .ok (.iconst 4, 1) := by decide +kernel
theorem dL_target_1 : decode cL_target 1 = .ok (.aload_n 0, 1) := by decide +kernel
theorem dL_target_2 : decode cL_target 2 = .ok (.iload_n 3, 1) := by decide +kernel
theorem dL_target_3 : decode cL_target 3 = .ok (.iconst 1, 1) := by decide +kernel
theorem dL_target_4 : decode cL_target 4 = .ok (.invokevirtual 16, 3) := by decide +kernel
theorem dL_target_7 : decode cL_target 7 = .ok (.imul, 1) := by decide +kernel
theorem dL_target_8 : decode cL_target 8 = .ok (.istore 4, 2) := by decide +kernel
theorem dL_target_10 : decode cL_target 10 = .ok (.iconst 0, 1) := by decide +kernel
theorem dL_target_11 : decode cL_target 11 = .ok (.istore 5, 2) := by decide +kernel
theorem dL_target_13 : decode cL_target 13 = .ok (.iload 5, 2) := by decide +kernel
theorem dL_target_15 : decode cL_target 15 = .ok (.bipush 10, 2) := by decide +kernel
theorem dL_target_17 : decode cL_target 17 = .ok (.if_icmp .ge 60, 3) := by decide +kernel
theorem dL_target_20 : decode cL_target 20 = .ok (.aload_n 2, 1) := by decide +kernel
theorem dL_target_21 : decode cL_target 21 = .ok (.iload_n 3, 1) := by decide +kernel
theorem dL_target_22 : decode cL_target 22 = .ok (.iload 5, 2) := by decide +kernel
theorem dL_target_24 : decode cL_target 24 = .ok (.invokestatic 20, 3) := by decide +kernel
theorem dL_target_27 : decode cL_target 27 = .ok (.istore 6, 2) := by decide +kernel
theorem dL_target_29 : decode cL_target 29 = .ok (.iload 4, 2) := by decide +kernel
theorem dL_target_31 : decode cL_target 31 = .ok (.iload 5, 2) := by decide +kernel
theorem dL_target_33 : decode cL_target 33 = .ok (.iload_n 3, 1) := by decide +kernel
theorem dL_target_34 : decode cL_target 34 = .ok (.if_icmp .eq 33, 3) := by decide +kernel
theorem dL_target_37 : decode cL_target 37 = .ok (.aload_n 1, 1) := by decide +kernel
theorem dL_target_38 : decode cL_target 38 = .ok (.iload 5, 2) := by decide +kernel
theorem dL_target_40 : decode cL_target 40 = .ok (.iaload, 1) := by decide +kernel
theorem dL_target_41 : decode cL_target 41 = .ok (.iconst 3, 1) := by decide +kernel
theorem dL_target_42 : decode cL_target 42 = .ok (.if_icmp .ne 25, 3) := by decide +kernel
theorem dL_target_45 : decode cL_target 45 = .ok (.aload_n 0, 1) := by decide +kernel
theorem dL_target_46 : decode cL_target 46 = .ok (.iload 5, 2) := by decide +kernel
theorem dL_target_48 : decode cL_target 48 = .ok (.iconst 1, 1) := by decide +kernel
theorem dL_target_49 : decode cL_target 49 = .ok (.invokevirtual 16, 3) := by decide +kernel
theorem dL_target_52 : decode cL_target 52 = .ok (.iload 6, 2) := by decide +kernel
theorem dL_target_54 : decode cL_target 54 = .ok (.ifCond .le 8, 3) := by decide +kernel
theorem dL_target_57 : decode cL_target 57 = .ok (.iload 6, 2) := by decide +kernel
theorem dL_target_59 : decode cL_target 59 = .ok (.goto 4, 3) := by decide +kernel
theorem dL_target_62 : decode cL_target 62 = .ok (.iconst 1, 1) := by decide +kernel
theorem dL_target_63 : decode cL_target 63 = .ok (.idiv, 1) := by decide +kernel
theorem dL_target_64 : decode cL_target 64 = .ok (.goto 4, 3) := by decide +kernel
theorem dL_target_67 : decode cL_target 67 = .ok (.iconst 0, 1) := by decide +kernel
theorem dL_target_68 : decode cL_target 68 = .ok (.iadd, 1) := by decide +kernel
theorem dL_target_69 : decode cL_target 69 = .ok (.istore 4, 2) := by decide +kernel
theorem dL_target_71 : decode cL_target 71 = .ok (.iinc 5 1, 3) := by decide +kernel
theorem dL_target_74 : decode cL_target 74 = .ok (.goto (-61), 3) := by decide +kernel
theorem dL_target_77 : decode cL_target 77 = .ok (.iload 4, 2) := by decide +kernel
theorem dL_target_79 : decode cL_target 79 = .ok (.ireturn, 1) := by decide +kernel
theorem dL_isNear_0 : decode cL_isNear 0 = .ok (.iload_n 2, 1) := by decide +kernel
theorem dL_isNear_1 : decode cL_isNear 1 = .ok (.iload_n 1, 1) := by decide +kernel
theorem dL_isNear_2 : decode cL_isNear 2 = .ok (.if_icmp .lt 31, 3) := by decide +kernel
theorem dL_isNear_5 : decode cL_isNear 5 = .ok (.iload_n 0, 1) := by decide +kernel
theorem dL_isNear_6 : decode cL_isNear 6 = .ok (.iload_n 1, 1) := by decide +kernel
theorem dL_isNear_7 : decode cL_isNear 7 = .ok (.if_icmp .lt 22, 3) := by decide +kernel
theorem dL_isNear_10 : decode cL_isNear 10 = .ok (.iload_n 0, 1) := by decide +kernel
theorem dL_isNear_11 : decode cL_isNear 11 = .ok (.iload_n 2, 1) := by decide +kernel
theorem dL_isNear_12 : decode cL_isNear 12 = .ok (.if_icmp .gt 17, 3) := by decide +kernel
theorem dL_isNear_15 : decode cL_isNear 15 = .ok (.iload_n 2, 1) := by decide +kernel
theorem dL_isNear_16 : decode cL_isNear 16 = .ok (.iload_n 1, 1) := by decide +kernel
theorem dL_isNear_17 : decode cL_isNear 17 = .ok (.if_icmp .eq 8, 3) := by decide +kernel
theorem dL_isNear_20 : decode cL_isNear 20 = .ok (.iload_n 0, 1) := by decide +kernel
theorem dL_isNear_21 : decode cL_isNear 21 = .ok (.iload_n 1, 1) := by decide +kernel
theorem dL_isNear_22 : decode cL_isNear 22 = .ok (.if_icmp .le 7, 3) := by decide +kernel
theorem dL_isNear_25 : decode cL_isNear 25 = .ok (.iconst 1, 1) := by decide +kernel
theorem dL_isNear_26 : decode cL_isNear 26 = .ok (.goto 27, 3) := by decide +kernel
theorem dL_isNear_29 : decode cL_isNear 29 = .ok (.iconst 0, 1) := by decide +kernel
theorem dL_isNear_30 : decode cL_isNear 30 = .ok (.goto 23, 3) := by decide +kernel
theorem dL_isNear_33 : decode cL_isNear 33 = .ok (.iload_n 0, 1) := by decide +kernel
theorem dL_isNear_34 : decode cL_isNear 34 = .ok (.iload_n 1, 1) := by decide +kernel
theorem dL_isNear_35 : decode cL_isNear 35 = .ok (.if_icmp .gt 17, 3) := by decide +kernel
theorem dL_isNear_38 : decode cL_isNear 38 = .ok (.iload_n 0, 1) := by decide +kernel
theorem dL_isNear_39 : decode cL_isNear 39 = .ok (.iload_n 2, 1) := by decide +kernel
theorem dL_isNear_40 : decode cL_isNear 40 = .ok (.if_icmp .lt 12, 3) := by decide +kernel
theorem dL_isNear_43 : decode cL_isNear 43 = .ok (.iload_n 0, 1) := by decide +kernel
theorem dL_isNear_44 : decode cL_isNear 44 = .ok (.iload_n 1, 1) := by decide +kernel
theorem dL_isNear_45 : decode cL_isNear 45 = .ok (.if_icmp .ge 7, 3) := by decide +kernel
theorem dL_isNear_48 : decode cL_isNear 48 = .ok (.iconst 1, 1) := by decide +kernel
theorem dL_isNear_49 : decode cL_isNear 49 = .ok (.goto 4, 3) := by decide +kernel
theorem dL_isNear_52 : decode cL_isNear 52 = .ok (.iconst 0, 1) := by decide +kernel
theorem dL_isNear_53 : decode cL_isNear 53 = .ok (.ireturn, 1) := by decide +kernel
set_option maxRecDepth 20000 in
theorem ggL_coming_L_inputs : GoodIn wsL_coming wsL_inputs := goodIn_r _ [4] (by decide +kernel) (by decide +kernel)
set_option maxRecDepth 20000 in
theorem gL_coming_L_inputs : GoodIn wsL_coming (va_wsS RL 26 yL_inputs wsL_inputs) := goodIn_app (goodIn_of _ (by decide +kernel)) ggL_coming_L_inputs
set_option maxRecDepth 20000 in
theorem ggL_coming_X3_comes : GoodIn wsL_coming wsX3_comes := goodIn_ca (goodIn_ca (goodIn_r _ [9, 10, 11, 12, 13, 14, 8, 15, 16, 17, 18, 19, 20, 21, 22, 23, 24, 25, 26, 27, 28, 29, 30, 31, 32, 33, 34, 35, 36, 37, 38, 39, 40, 41, 42, 43, 44, 45, 46, 47, 48, 49, 50, 51, 52, 53, 54, 55, 56, 57, 58, 59, 60, 61] (by decide +kernel) (by decide +kernel)) (goodIn_sub (fun _ h => List.mem_cons_of_mem _ (List.mem_append_left _ (List.mem_append_right _ h))) (by decide +kernel))) (goodIn_sub (fun _ h => List.mem_cons_of_mem _ (List.mem_append_right _ h)) (by decide +kernel))
set_option maxRecDepth 20000 in
theorem gL_coming_X3_comes : GoodIn wsL_coming (wsV RL 30 RX3 yX3_comes wsX3_comes) := goodIn_app (goodIn_of _ (by decide +kernel)) ggL_coming_X3_comes
theorem dL_coming_0 : decode cL_coming 0 = .ok (.lconst 0, 1) := by decide +kernel
theorem dL_coming_1 : decode cL_coming 1 = .ok (.lstore_n 3, 1) := by decide +kernel
theorem dL_coming_2 : decode cL_coming 2 = .ok (.iconst 0, 1) := by decide +kernel
theorem dL_coming_3 : decode cL_coming 3 = .ok (.istore 5, 2) := by decide +kernel
theorem dL_coming_5 : decode cL_coming 5 = .ok (.iload 5, 2) := by decide +kernel
theorem dL_coming_7 : decode cL_coming 7 = .ok (.aload_n 1, 1) := by decide +kernel
theorem dL_coming_8 : decode cL_coming 8 = .ok (.iload_n 2, 1) := by decide +kernel
theorem dL_coming_9 : decode cL_coming 9 = .ok (.iaload, 1) := by decide +kernel
theorem dL_coming_10 : decode cL_coming 10 = .ok (.invokestatic 26, 3) := by decide +kernel
theorem dL_coming_13 : decode cL_coming 13 = .ok (.if_icmp .ge 37, 3) := by decide +kernel
theorem dL_coming_16 : decode cL_coming 16 = .ok (.iconst 0, 1) := by decide +kernel
theorem dL_coming_17 : decode cL_coming 17 = .ok (.istore 6, 2) := by decide +kernel
theorem dL_coming_19 : decode cL_coming 19 = .ok (.iload 6, 2) := by decide +kernel
theorem dL_coming_21 : decode cL_coming 21 = .ok (.bipush 8, 2) := by decide +kernel
theorem dL_coming_23 : decode cL_coming 23 = .ok (.if_icmp .ge 21, 3) := by decide +kernel
theorem dL_coming_26 : decode cL_coming 26 = .ok (.lload_n 3, 1) := by decide +kernel
theorem dL_coming_27 : decode cL_coming 27 = .ok (.aload_n 0, 1) := by decide +kernel
theorem dL_coming_28 : decode cL_coming 28 = .ok (.iload_n 2, 1) := by decide +kernel
theorem dL_coming_29 : decode cL_coming 29 = .ok (.iload 5, 2) := by decide +kernel
theorem dL_coming_31 : decode cL_coming 31 = .ok (.iload 6, 2) := by decide +kernel
theorem dL_coming_33 : decode cL_coming 33 = .ok (.invokevirtual 30, 3) := by decide +kernel
theorem dL_coming_36 : decode cL_coming 36 = .ok (.ladd, 1) := by decide +kernel
theorem dL_coming_37 : decode cL_coming 37 = .ok (.lstore_n 3, 1) := by decide +kernel
theorem dL_coming_38 : decode cL_coming 38 = .ok (.iinc 6 1, 3) := by decide +kernel
theorem dL_coming_41 : decode cL_coming 41 = .ok (.goto (-22), 3) := by decide +kernel
theorem dL_coming_44 : decode cL_coming 44 = .ok (.iinc 5 1, 3) := by decide +kernel
theorem dL_coming_47 : decode cL_coming 47 = .ok (.goto (-42), 3) := by decide +kernel
theorem dL_coming_50 : decode cL_coming 50 = .ok (.lload_n 3, 1) := by decide +kernel
theorem dL_coming_51 : decode cL_coming 51 = .ok (.lreturn, 1) := by decide +kernel
set_option maxRecDepth 20000 in
theorem ggL_isWell_X3_account : GoodIn wsL_isWell wsX3_account := goodIn_ca (goodIn_r _ [5, 6, 7, 8, 9, 10, 11, 12, 4, 13, 14, 15, 86, 87, 88, 89, 90, 91, 92, 93, 94, 95, 96, 97, 98, 99, 100, 101, 102, 103] (by decide +kernel) (by decide +kernel)) (goodIn_sub (fun _ h => List.mem_cons_of_mem _ (List.mem_append_left _ (List.mem_append_left _ (List.mem_append_right _ h)))) (by decide +kernel))
set_option maxRecDepth 20000 in
theorem gL_isWell_X3_account : GoodIn wsL_isWell (wsV RL 34 RX3 yX3_account wsX3_account) := goodIn_app (goodIn_of _ (by decide +kernel)) ggL_isWell_X3_account
set_option maxRecDepth 20000 in
theorem ggL_isWell_L_coming : GoodIn wsL_isWell wsL_coming := goodIn_ca (goodIn_ca (goodIn_r _ [19, 20, 21, 18, 22, 23, 24, 25, 4, 26, 6, 27, 28, 29, 30, 31, 32, 33, 34, 35, 36, 37, 38, 39, 40, 41, 42, 43, 44, 11, 12, 13, 14, 15, 45, 46, 47, 86, 87, 88, 89, 90, 91, 92, 93, 94, 95, 96, 97, 98, 99, 100, 101, 102, 103, 104, 105, 106, 107, 108, 109, 110] (by decide +kernel) (by decide +kernel)) (goodIn_sub (fun _ h => List.mem_cons_of_mem _ (List.mem_append_left _ (List.mem_append_right _ h))) (by decide +kernel))) (goodIn_sub (fun _ h => List.mem_cons_of_mem _ (List.mem_append_left _ (List.mem_append_left _ (List.mem_append_right _ h)))) (by decide +kernel))
set_option maxRecDepth 20000 in
theorem gL_isWell_L_coming : GoodIn wsL_isWell (va_wsS RL 38 yL_coming wsL_coming) := goodIn_app (goodIn_of _ (by decide +kernel)) ggL_isWell_L_coming
set_option maxRecDepth 20000 in
theorem ggL_isWell_X3_seen : GoodIn wsL_isWell wsX3_seen := goodIn_ca (goodIn_ca (goodIn_ca (goodIn_r _ [51, 6, 52, 37, 38, 39, 4, 40, 32, 33, 35, 41, 11, 12, 13, 14, 15, 53, 54, 55, 56, 57, 58, 36, 59, 60, 61, 62, 63, 64, 86, 87, 88, 89, 90, 91, 92, 93, 94, 95, 96, 97, 98, 99, 100, 101, 102, 103, 104, 105, 106, 107, 108, 109, 110] (by decide +kernel) (by decide +kernel)) (goodIn_sub (fun _ h => List.mem_cons_of_mem _ (List.mem_append_left _ (List.mem_append_right _ h))) (by decide +kernel))) (goodIn_sub (fun _ h => List.mem_cons_of_mem _ (List.mem_append_left _ (List.mem_append_left _ (List.mem_append_right _ h)))) (by decide +kernel))) (goodIn_sub (fun _ h => List.mem_cons_of_mem _ (List.mem_append_right _ h)) (by decide +kernel))
set_option maxRecDepth 20000 in
theorem gL_isWell_X3_seen : GoodIn wsL_isWell (wsV RL 42 RX3 yX3_seen wsX3_seen) := goodIn_app (goodIn_of _ (by decide +kernel)) ggL_isWell_X3_seen
set_option maxRecDepth 20000 in
theorem ggL_isWell_X3_ofPart : GoodIn wsL_isWell wsX3_ofPart := goodIn_ca (goodIn_ca (goodIn_r _ [68, 35, 36, 69, 6, 70, 71, 72, 73, 37, 38, 39, 4, 40, 32, 33, 41, 11, 12, 13, 14, 15, 74, 75, 76, 62, 77, 78, 79, 80, 81, 82, 83, 84, 85, 86, 87, 88, 89, 90, 104, 105, 106, 107, 108, 109, 110, 91, 92, 93, 94, 95, 96, 97, 98, 99, 100, 101, 102, 103, 111, 112, 113, 114, 115, 116, 117] (by decide +kernel) (by decide +kernel)) (goodIn_sub (fun _ h => List.mem_cons_of_mem _ (List.mem_append_left _ (List.mem_append_right _ h))) (by decide +kernel))) (goodIn_sub (fun _ h => List.mem_cons_of_mem _ (List.mem_append_left _ (List.mem_append_left _ (List.mem_append_right _ h)))) (by decide +kernel))
set_option maxRecDepth 20000 in
theorem gL_isWell_X3_ofPart : GoodIn wsL_isWell (wsV RL 16 RX3 yX3_ofPart wsX3_ofPart) := goodIn_app (goodIn_of _ (by decide +kernel)) ggL_isWell_X3_ofPart
theorem dL_isWell_0 : decode cL_isWell 0 = .ok (.lconst 0, 1) := by decide +kernel
theorem dL_isWell_1 : decode cL_isWell 1 = .ok (.lstore_n 2, 1) := by decide +kernel
theorem dL_isWell_2 : decode cL_isWell 2 = .ok (.lconst 0, 1) := by decide +kernel
theorem dL_isWell_3 : decode cL_isWell 3 = .ok (.lstore 4, 2) := by decide +kernel
theorem dL_isWell_5 : decode cL_isWell 5 = .ok (.iconst 0, 1) := by decide +kernel
theorem dL_isWell_6 : decode cL_isWell 6 = .ok (.istore 6, 2) := by decide +kernel
theorem dL_isWell_8 : decode cL_isWell 8 = .ok (.aload_n 0, 1) := by decide +kernel
theorem dL_isWell_9 : decode cL_isWell 9 = .ok (.iconst 0, 1) := by decide +kernel
theorem dL_isWell_10 : decode cL_isWell 10 = .ok (.invokevirtual 34, 3) := by decide +kernel
theorem dL_isWell_13 : decode cL_isWell 13 = .ok (.aload_n 0, 1) := by decide +kernel
theorem dL_isWell_14 : decode cL_isWell 14 = .ok (.iconst 1, 1) := by decide +kernel
theorem dL_isWell_15 : decode cL_isWell 15 = .ok (.invokevirtual 34, 3) := by decide +kernel
theorem dL_isWell_18 : decode cL_isWell 18 = .ok (.aload_n 0, 1) := by decide +kernel
theorem dL_isWell_19 : decode cL_isWell 19 = .ok (.iconst 2, 1) := by decide +kernel
theorem dL_isWell_20 : decode cL_isWell 20 = .ok (.invokevirtual 34, 3) := by decide +kernel
theorem dL_isWell_23 : decode cL_isWell 23 = .ok (.ladd, 1) := by decide +kernel
theorem dL_isWell_24 : decode cL_isWell 24 = .ok (.aload_n 0, 1) := by decide +kernel
theorem dL_isWell_25 : decode cL_isWell 25 = .ok (.iconst 3, 1) := by decide +kernel
theorem dL_isWell_26 : decode cL_isWell 26 = .ok (.invokevirtual 34, 3) := by decide +kernel
theorem dL_isWell_29 : decode cL_isWell 29 = .ok (.ladd, 1) := by decide +kernel
theorem dL_isWell_30 : decode cL_isWell 30 = .ok (.aload_n 0, 1) := by decide +kernel
theorem dL_isWell_31 : decode cL_isWell 31 = .ok (.iconst 4, 1) := by decide +kernel
theorem dL_isWell_32 : decode cL_isWell 32 = .ok (.invokevirtual 34, 3) := by decide +kernel
theorem dL_isWell_35 : decode cL_isWell 35 = .ok (.ladd, 1) := by decide +kernel
theorem dL_isWell_36 : decode cL_isWell 36 = .ok (.lcmp, 1) := by decide +kernel
theorem dL_isWell_37 : decode cL_isWell 37 = .ok (.ifCond .ne 7, 3) := by decide +kernel
theorem dL_isWell_40 : decode cL_isWell 40 = .ok (.iconst 1, 1) := by decide +kernel
theorem dL_isWell_41 : decode cL_isWell 41 = .ok (.goto 4, 3) := by decide +kernel
theorem dL_isWell_44 : decode cL_isWell 44 = .ok (.iconst 0, 1) := by decide +kernel
theorem dL_isWell_45 : decode cL_isWell 45 = .ok (.istore 7, 2) := by decide +kernel
theorem dL_isWell_47 : decode cL_isWell 47 = .ok (.iconst 0, 1) := by decide +kernel
theorem dL_isWell_48 : decode cL_isWell 48 = .ok (.istore 8, 2) := by decide +kernel
theorem dL_isWell_50 : decode cL_isWell 50 = .ok (.iload 8, 2) := by decide +kernel
theorem dL_isWell_52 : decode cL_isWell 52 = .ok (.bipush 10, 2) := by decide +kernel
theorem dL_isWell_54 : decode cL_isWell 54 = .ok (.if_icmp .ge 212, 3) := by decide +kernel
theorem dL_isWell_57 : decode cL_isWell 57 = .ok (.lload 4, 2) := by decide +kernel
theorem dL_isWell_59 : decode cL_isWell 59 = .ok (.aload_n 0, 1) := by decide +kernel
theorem dL_isWell_60 : decode cL_isWell 60 = .ok (.aload_n 1, 1) := by decide +kernel
theorem dL_isWell_61 : decode cL_isWell 61 = .ok (.iload 8, 2) := by decide +kernel
theorem dL_isWell_63 : decode cL_isWell 63 = .ok (.invokestatic 38, 3) := by decide +kernel
theorem dL_isWell_66 : decode cL_isWell 66 = .ok (.ladd, 1) := by decide +kernel
theorem dL_isWell_67 : decode cL_isWell 67 = .ok (.lstore 4, 2) := by decide +kernel
theorem dL_isWell_69 : decode cL_isWell 69 = .ok (.iload 6, 2) := by decide +kernel
theorem dL_isWell_71 : decode cL_isWell 71 = .ok (.ifCond .ne 11, 3) := by decide +kernel
theorem dL_isWell_74 : decode cL_isWell 74 = .ok (.aload_n 1, 1) := by decide +kernel
theorem dL_isWell_75 : decode cL_isWell 75 = .ok (.iload 8, 2) := by decide +kernel
theorem dL_isWell_77 : decode cL_isWell 77 = .ok (.iaload, 1) := by decide +kernel
theorem dL_isWell_78 : decode cL_isWell 78 = .ok (.iconst 1, 1) := by decide +kernel
theorem dL_isWell_79 : decode cL_isWell 79 = .ok (.if_icmp .ne 7, 3) := by decide +kernel
theorem dL_isWell_82 : decode cL_isWell 82 = .ok (.iconst 1, 1) := by decide +kernel
theorem dL_isWell_83 : decode cL_isWell 83 = .ok (.goto 4, 3) := by decide +kernel
theorem dL_isWell_86 : decode cL_isWell 86 = .ok (.iconst 0, 1) := by decide +kernel
theorem dL_isWell_87 : decode cL_isWell 87 = .ok (.istore 6, 2) := by decide +kernel
theorem dL_isWell_89 : decode cL_isWell 89 = .ok (.aload_n 1, 1) := by decide +kernel
theorem dL_isWell_90 : decode cL_isWell 90 = .ok (.iload 8, 2) := by decide +kernel
theorem dL_isWell_92 : decode cL_isWell 92 = .ok (.iaload, 1) := by decide +kernel
theorem dL_isWell_93 : decode cL_isWell 93 = .ok (.iconst 5, 1) := by decide +kernel
theorem dL_isWell_94 : decode cL_isWell 94 = .ok (.if_icmp .ne 65, 3) := by decide +kernel
theorem dL_isWell_97 : decode cL_isWell 97 = .ok (.lconst 0, 1) := by decide +kernel
theorem dL_isWell_98 : decode cL_isWell 98 = .ok (.lstore 9, 2) := by decide +kernel
theorem dL_isWell_100 : decode cL_isWell 100 = .ok (.iconst 0, 1) := by decide +kernel
theorem dL_isWell_101 : decode cL_isWell 101 = .ok (.istore 11, 2) := by decide +kernel
theorem dL_isWell_103 : decode cL_isWell 103 = .ok (.iload 11, 2) := by decide +kernel
theorem dL_isWell_105 : decode cL_isWell 105 = .ok (.bipush 8, 2) := by decide +kernel
theorem dL_isWell_107 : decode cL_isWell 107 = .ok (.if_icmp .ge 22, 3) := by decide +kernel
theorem dL_isWell_110 : decode cL_isWell 110 = .ok (.lload 9, 2) := by decide +kernel
theorem dL_isWell_112 : decode cL_isWell 112 = .ok (.aload_n 0, 1) := by decide +kernel
theorem dL_isWell_113 : decode cL_isWell 113 = .ok (.iload 8, 2) := by decide +kernel
theorem dL_isWell_115 : decode cL_isWell 115 = .ok (.iload 11, 2) := by decide +kernel
theorem dL_isWell_117 : decode cL_isWell 117 = .ok (.invokevirtual 42, 3) := by decide +kernel
theorem dL_isWell_120 : decode cL_isWell 120 = .ok (.ladd, 1) := by decide +kernel
theorem dL_isWell_121 : decode cL_isWell 121 = .ok (.lstore 9, 2) := by decide +kernel
theorem dL_isWell_123 : decode cL_isWell 123 = .ok (.iinc 11 1, 3) := by decide +kernel
theorem dL_isWell_126 : decode cL_isWell 126 = .ok (.goto (-23), 3) := by decide +kernel
theorem dL_isWell_129 : decode cL_isWell 129 = .ok (.iload 7, 2) := by decide +kernel
theorem dL_isWell_131 : decode cL_isWell 131 = .ok (.ifCond .eq 20, 3) := by decide +kernel
theorem dL_isWell_134 : decode cL_isWell 134 = .ok (.lload 9, 2) := by decide +kernel
theorem dL_isWell_136 : decode cL_isWell 136 = .ok (.aload_n 0, 1) := by decide +kernel
theorem dL_isWell_137 : decode cL_isWell 137 = .ok (.iload 8, 2) := by decide +kernel
theorem dL_isWell_139 : decode cL_isWell 139 = .ok (.iconst (-1), 1) := by decide +kernel
theorem dL_isWell_140 : decode cL_isWell 140 = .ok (.invokevirtual 42, 3) := by decide +kernel
theorem dL_isWell_143 : decode cL_isWell 143 = .ok (.lcmp, 1) := by decide +kernel
theorem dL_isWell_144 : decode cL_isWell 144 = .ok (.ifCond .ne 7, 3) := by decide +kernel
theorem dL_isWell_147 : decode cL_isWell 147 = .ok (.iconst 1, 1) := by decide +kernel
theorem dL_isWell_148 : decode cL_isWell 148 = .ok (.goto 4, 3) := by decide +kernel
theorem dL_isWell_151 : decode cL_isWell 151 = .ok (.iconst 0, 1) := by decide +kernel
theorem dL_isWell_152 : decode cL_isWell 152 = .ok (.istore 7, 2) := by decide +kernel
theorem dL_isWell_154 : decode cL_isWell 154 = .ok (.lload_n 2, 1) := by decide +kernel
theorem dL_isWell_155 : decode cL_isWell 155 = .ok (.lload 9, 2) := by decide +kernel
theorem dL_isWell_157 : decode cL_isWell 157 = .ok (.ladd, 1) := by decide +kernel
theorem dL_isWell_158 : decode cL_isWell 158 = .ok (.lstore_n 2, 1) := by decide +kernel
theorem dL_isWell_159 : decode cL_isWell 159 = .ok (.iload 7, 2) := by decide +kernel
theorem dL_isWell_161 : decode cL_isWell 161 = .ok (.ifCond .eq 96, 3) := by decide +kernel
theorem dL_isWell_164 : decode cL_isWell 164 = .ok (.aload_n 1, 1) := by decide +kernel
theorem dL_isWell_165 : decode cL_isWell 165 = .ok (.iload 8, 2) := by decide +kernel
theorem dL_isWell_167 : decode cL_isWell 167 = .ok (.iaload, 1) := by decide +kernel
theorem dL_isWell_168 : decode cL_isWell 168 = .ok (.iconst 3, 1) := by decide +kernel
theorem dL_isWell_169 : decode cL_isWell 169 = .ok (.if_icmp .ne 38, 3) := by decide +kernel
theorem dL_isWell_172 : decode cL_isWell 172 = .ok (.aload_n 0, 1) := by decide +kernel
theorem dL_isWell_173 : decode cL_isWell 173 = .ok (.iload 8, 2) := by decide +kernel
theorem dL_isWell_175 : decode cL_isWell 175 = .ok (.iconst 2, 1) := by decide +kernel
theorem dL_isWell_176 : decode cL_isWell 176 = .ok (.invokevirtual 16, 3) := by decide +kernel
theorem dL_isWell_179 : decode cL_isWell 179 = .ok (.ifCond .lt 78, 3) := by decide +kernel
theorem dL_isWell_182 : decode cL_isWell 182 = .ok (.aload_n 0, 1) := by decide +kernel
theorem dL_isWell_183 : decode cL_isWell 183 = .ok (.iload 8, 2) := by decide +kernel
theorem dL_isWell_185 : decode cL_isWell 185 = .ok (.iconst 2, 1) := by decide +kernel
theorem dL_isWell_186 : decode cL_isWell 186 = .ok (.invokevirtual 16, 3) := by decide +kernel
theorem dL_isWell_189 : decode cL_isWell 189 = .ok (.bipush 8, 2) := by decide +kernel
theorem dL_isWell_191 : decode cL_isWell 191 = .ok (.if_icmp .ge 66, 3) := by decide +kernel
theorem dL_isWell_194 : decode cL_isWell 194 = .ok (.aload_n 0, 1) := by decide +kernel
theorem dL_isWell_195 : decode cL_isWell 195 = .ok (.iload 8, 2) := by decide +kernel
theorem dL_isWell_197 : decode cL_isWell 197 = .ok (.iconst 3, 1) := by decide +kernel
theorem dL_isWell_198 : decode cL_isWell 198 = .ok (.invokevirtual 16, 3) := by decide +kernel
theorem dL_isWell_201 : decode cL_isWell 201 = .ok (.ifCond .lt 56, 3) := by decide +kernel
theorem dL_isWell_204 : decode cL_isWell 204 = .ok (.goto 35, 3) := by decide +kernel
theorem dL_isWell_207 : decode cL_isWell 207 = .ok (.aload_n 0, 1) := by decide +kernel
theorem dL_isWell_208 : decode cL_isWell 208 = .ok (.iload 8, 2) := by decide +kernel
theorem dL_isWell_210 : decode cL_isWell 210 = .ok (.iconst 2, 1) := by decide +kernel
theorem dL_isWell_211 : decode cL_isWell 211 = .ok (.invokevirtual 16, 3) := by decide +kernel
theorem dL_isWell_214 : decode cL_isWell 214 = .ok (.iconst (-1), 1) := by decide +kernel
theorem dL_isWell_215 : decode cL_isWell 215 = .ok (.if_icmp .ne 42, 3) := by decide +kernel
theorem dL_isWell_218 : decode cL_isWell 218 = .ok (.aload_n 0, 1) := by decide +kernel
theorem dL_isWell_219 : decode cL_isWell 219 = .ok (.iload 8, 2) := by decide +kernel
theorem dL_isWell_221 : decode cL_isWell 221 = .ok (.iconst 3, 1) := by decide +kernel
theorem dL_isWell_222 : decode cL_isWell 222 = .ok (.invokevirtual 16, 3) := by decide +kernel
theorem dL_isWell_225 : decode cL_isWell 225 = .ok (.ifCond .ne 32, 3) := by decide +kernel
theorem dL_isWell_228 : decode cL_isWell 228 = .ok (.aload_n 0, 1) := by decide +kernel
theorem dL_isWell_229 : decode cL_isWell 229 = .ok (.iload 8, 2) := by decide +kernel
theorem dL_isWell_231 : decode cL_isWell 231 = .ok (.iconst 4, 1) := by decide +kernel
theorem dL_isWell_232 : decode cL_isWell 232 = .ok (.invokevirtual 16, 3) := by decide +kernel
theorem dL_isWell_235 : decode cL_isWell 235 = .ok (.iconst (-1), 1) := by decide +kernel
theorem dL_isWell_236 : decode cL_isWell 236 = .ok (.if_icmp .ne 21, 3) := by decide +kernel
theorem dL_isWell_239 : decode cL_isWell 239 = .ok (.aload_n 0, 1) := by decide +kernel
theorem dL_isWell_240 : decode cL_isWell 240 = .ok (.iload 8, 2) := by decide +kernel
theorem dL_isWell_242 : decode cL_isWell 242 = .ok (.iconst 0, 1) := by decide +kernel
theorem dL_isWell_243 : decode cL_isWell 243 = .ok (.invokevirtual 16, 3) := by decide +kernel
theorem dL_isWell_246 : decode cL_isWell 246 = .ok (.aload_n 1, 1) := by decide +kernel
theorem dL_isWell_247 : decode cL_isWell 247 = .ok (.iload 8, 2) := by decide +kernel
theorem dL_isWell_249 : decode cL_isWell 249 = .ok (.iaload, 1) := by decide +kernel
theorem dL_isWell_250 : decode cL_isWell 250 = .ok (.if_icmp .ne 7, 3) := by decide +kernel
theorem dL_isWell_253 : decode cL_isWell 253 = .ok (.iconst 1, 1) := by decide +kernel
theorem dL_isWell_254 : decode cL_isWell 254 = .ok (.goto 4, 3) := by decide +kernel
theorem dL_isWell_257 : decode cL_isWell 257 = .ok (.iconst 0, 1) := by decide +kernel
theorem dL_isWell_258 : decode cL_isWell 258 = .ok (.istore 7, 2) := by decide +kernel
theorem dL_isWell_260 : decode cL_isWell 260 = .ok (.iinc 8 1, 3) := by decide +kernel
theorem dL_isWell_263 : decode cL_isWell 263 = .ok (.goto (-213), 3) := by decide +kernel
theorem dL_isWell_266 : decode cL_isWell 266 = .ok (.iload 7, 2) := by decide +kernel
theorem dL_isWell_268 : decode cL_isWell 268 = .ok (.ifCond .eq 47, 3) := by decide +kernel
theorem dL_isWell_271 : decode cL_isWell 271 = .ok (.lload_n 2, 1) := by decide +kernel
theorem dL_isWell_272 : decode cL_isWell 272 = .ok (.aload_n 0, 1) := by decide +kernel
theorem dL_isWell_273 : decode cL_isWell 273 = .ok (.iconst 3, 1) := by decide +kernel
theorem dL_isWell_274 : decode cL_isWell 274 = .ok (.invokevirtual 34, 3) := by decide +kernel
theorem dL_isWell_277 : decode cL_isWell 277 = .ok (.lcmp, 1) := by decide +kernel
theorem dL_isWell_278 : decode cL_isWell 278 = .ok (.ifCond .ne 37, 3) := by decide +kernel
theorem dL_isWell_281 : decode cL_isWell 281 = .ok (.iload 6, 2) := by decide +kernel
theorem dL_isWell_283 : decode cL_isWell 283 = .ok (.ifCond .eq 17, 3) := by decide +kernel
theorem dL_isWell_286 : decode cL_isWell 286 = .ok (.lload 4, 2) := by decide +kernel
theorem dL_isWell_288 : decode cL_isWell 288 = .ok (.aload_n 0, 1) := by decide +kernel
theorem dL_isWell_289 : decode cL_isWell 289 = .ok (.iconst 4, 1) := by decide +kernel
theorem dL_isWell_290 : decode cL_isWell 290 = .ok (.invokevirtual 34, 3) := by decide +kernel
theorem dL_isWell_293 : decode cL_isWell 293 = .ok (.lcmp, 1) := by decide +kernel
theorem dL_isWell_294 : decode cL_isWell 294 = .ok (.ifCond .gt 21, 3) := by decide +kernel
theorem dL_isWell_297 : decode cL_isWell 297 = .ok (.goto 14, 3) := by decide +kernel
theorem dL_isWell_300 : decode cL_isWell 300 = .ok (.lload 4, 2) := by decide +kernel
theorem dL_isWell_302 : decode cL_isWell 302 = .ok (.aload_n 0, 1) := by decide +kernel
theorem dL_isWell_303 : decode cL_isWell 303 = .ok (.iconst 4, 1) := by decide +kernel
theorem dL_isWell_304 : decode cL_isWell 304 = .ok (.invokevirtual 34, 3) := by decide +kernel
theorem dL_isWell_307 : decode cL_isWell 307 = .ok (.lcmp, 1) := by decide +kernel
theorem dL_isWell_308 : decode cL_isWell 308 = .ok (.ifCond .ne 7, 3) := by decide +kernel
theorem dL_isWell_311 : decode cL_isWell 311 = .ok (.iconst 1, 1) := by decide +kernel
theorem dL_isWell_312 : decode cL_isWell 312 = .ok (.goto 4, 3) := by decide +kernel
theorem dL_isWell_315 : decode cL_isWell 315 = .ok (.iconst 0, 1) := by decide +kernel
theorem dL_isWell_316 : decode cL_isWell 316 = .ok (.ireturn, 1) := by decide +kernel
