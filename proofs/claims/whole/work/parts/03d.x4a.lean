theorem dX4_init_0 : decode cX4_init 0 = .ok (.aload_n 0, 1) := by decide +kernel
theorem dX4_init_1 : decode cX4_init 1 = .ok (.invokespecial 1, 3) := by decide +kernel
theorem dX4_init_4 : decode cX4_init 4 = .ok (.aload_n 0, 1) := by decide +kernel
theorem dX4_init_5 : decode cX4_init 5 = .ok (.bipush 16, 2) := by decide +kernel
theorem dX4_init_7 : decode cX4_init 7 = .ok (.newarray .int, 2) := by decide +kernel
theorem dX4_init_9 : decode cX4_init 9 = .ok (.putfield 7, 3) := by decide +kernel
theorem dX4_init_12 : decode cX4_init 12 = .ok (.aload_n 0, 1) := by decide +kernel
theorem dX4_init_13 : decode cX4_init 13 = .ok (.bipush 16, 2) := by decide +kernel
theorem dX4_init_15 : decode cX4_init 15 = .ok (.newarray .int, 2) := by decide +kernel
theorem dX4_init_17 : decode cX4_init 17 = .ok (.putfield 13, 3) := by decide +kernel
theorem dX4_init_20 : decode cX4_init 20 = .ok (.aload_n 0, 1) := by decide +kernel
theorem dX4_init_21 : decode cX4_init 21 = .ok (.bipush 16, 2) := by decide +kernel
theorem dX4_init_23 : decode cX4_init 23 = .ok (.newarray .int, 2) := by decide +kernel
theorem dX4_init_25 : decode cX4_init 25 = .ok (.putfield 16, 3) := by decide +kernel
theorem dX4_init_28 : decode cX4_init 28 = .ok (.aload_n 0, 1) := by decide +kernel
theorem dX4_init_29 : decode cX4_init 29 = .ok (.bipush 16, 2) := by decide +kernel
theorem dX4_init_31 : decode cX4_init 31 = .ok (.newarray .int, 2) := by decide +kernel
theorem dX4_init_33 : decode cX4_init 33 = .ok (.putfield 19, 3) := by decide +kernel
theorem dX4_init_36 : decode cX4_init 36 = .ok (.aload_n 0, 1) := by decide +kernel
theorem dX4_init_37 : decode cX4_init 37 = .ok (.bipush 16, 2) := by decide +kernel
theorem dX4_init_39 : decode cX4_init 39 = .ok (.newarray .int, 2) := by decide +kernel
theorem dX4_init_41 : decode cX4_init 41 = .ok (.putfield 22, 3) := by decide +kernel
theorem dX4_init_44 : decode cX4_init 44 = .ok (.aload_n 0, 1) := by decide +kernel
theorem dX4_init_45 : decode cX4_init 45 = .ok (.bipush 32, 2) := by decide +kernel
theorem dX4_init_47 : decode cX4_init 47 = .ok (.newarray .int, 2) := by decide +kernel
theorem dX4_init_49 : decode cX4_init 49 = .ok (.putfield 25, 3) := by decide +kernel
theorem dX4_init_52 : decode cX4_init 52 = .ok (.aload_n 0, 1) := by decide +kernel
theorem dX4_init_53 : decode cX4_init 53 = .ok (.bipush 16, 2) := by decide +kernel
theorem dX4_init_55 : decode cX4_init 55 = .ok (.newarray .int, 2) := by decide +kernel
theorem dX4_init_57 : decode cX4_init 57 = .ok (.putfield 28, 3) := by decide +kernel
theorem dX4_init_60 : decode cX4_init 60 = .ok (.aload_n 0, 1) := by decide +kernel
theorem dX4_init_61 : decode cX4_init 61 = .ok (.bipush 16, 2) := by decide +kernel
theorem dX4_init_63 : decode cX4_init 63 = .ok (.newarray .int, 2) := by decide +kernel
theorem dX4_init_65 : decode cX4_init 65 = .ok (.putfield 31, 3) := by decide +kernel
theorem dX4_init_68 : decode cX4_init 68 = .ok (.aload_n 0, 1) := by decide +kernel
theorem dX4_init_69 : decode cX4_init 69 = .ok (.bipush 16, 2) := by decide +kernel
theorem dX4_init_71 : decode cX4_init 71 = .ok (.newarray .long, 2) := by decide +kernel
theorem dX4_init_73 : decode cX4_init 73 = .ok (.putfield 34, 3) := by decide +kernel
theorem dX4_init_76 : decode cX4_init 76 = .ok (.aload_n 0, 1) := by decide +kernel
theorem dX4_init_77 : decode cX4_init 77 = .ok (.bipush 16, 2) := by decide +kernel
theorem dX4_init_79 : decode cX4_init 79 = .ok (.newarray .int, 2) := by decide +kernel
theorem dX4_init_81 : decode cX4_init 81 = .ok (.putfield 38, 3) := by decide +kernel
theorem dX4_init_84 : decode cX4_init 84 = .ok (.aload_n 0, 1) := by decide +kernel
theorem dX4_init_85 : decode cX4_init 85 = .ok (.bipush 16, 2) := by decide +kernel
theorem dX4_init_87 : decode cX4_init 87 = .ok (.newarray .int, 2) := by decide +kernel
theorem dX4_init_89 : decode cX4_init 89 = .ok (.putfield 41, 3) := by decide +kernel
theorem dX4_init_92 : decode cX4_init 92 = .ok (.aload_n 0, 1) := by decide +kernel
theorem dX4_init_93 : decode cX4_init 93 = .ok (.bipush 16, 2) := by decide +kernel
theorem dX4_init_95 : decode cX4_init 95 = .ok (.newarray .long, 2) := by decide +kernel
theorem dX4_init_97 : decode cX4_init 97 = .ok (.putfield 44, 3) := by decide +kernel
theorem dX4_init_100 : decode cX4_init 100 = .ok (.aload_n 0, 1) := by decide +kernel
theorem dX4_init_101 : decode cX4_init 101 = .ok (.sipush 512, 3) := by decide +kernel
theorem dX4_init_104 : decode cX4_init 104 = .ok (.newarray .long, 2) := by decide +kernel
theorem dX4_init_106 : decode cX4_init 106 = .ok (.putfield 47, 3) := by decide +kernel
theorem dX4_init_109 : decode cX4_init 109 = .ok (.aload_n 0, 1) := by decide +kernel
theorem dX4_init_110 : decode cX4_init 110 = .ok (.sipush 256, 3) := by decide +kernel
theorem dX4_init_113 : decode cX4_init 113 = .ok (.newarray .long, 2) := by decide +kernel
theorem dX4_init_115 : decode cX4_init 115 = .ok (.putfield 50, 3) := by decide +kernel
theorem dX4_init_118 : decode cX4_init 118 = .ok (.aload_n 0, 1) := by decide +kernel
theorem dX4_init_119 : decode cX4_init 119 = .ok (.sipush 2048, 3) := by decide +kernel
theorem dX4_init_122 : decode cX4_init 122 = .ok (.newarray .long, 2) := by decide +kernel
theorem dX4_init_124 : decode cX4_init 124 = .ok (.putfield 53, 3) := by decide +kernel
theorem dX4_init_127 : decode cX4_init 127 = .ok (.aload_n 0, 1) := by decide +kernel
theorem dX4_init_128 : decode cX4_init 128 = .ok (.sipush 256, 3) := by decide +kernel
theorem dX4_init_131 : decode cX4_init 131 = .ok (.newarray .long, 2) := by decide +kernel
theorem dX4_init_133 : decode cX4_init 133 = .ok (.putfield 56, 3) := by decide +kernel
theorem dX4_init_136 : decode cX4_init 136 = .ok (.aload_n 0, 1) := by decide +kernel
theorem dX4_init_137 : decode cX4_init 137 = .ok (.bipush 32, 2) := by decide +kernel
theorem dX4_init_139 : decode cX4_init 139 = .ok (.newarray .int, 2) := by decide +kernel
theorem dX4_init_141 : decode cX4_init 141 = .ok (.putfield 59, 3) := by decide +kernel
theorem dX4_init_144 : decode cX4_init 144 = .ok (.aload_n 0, 1) := by decide +kernel
theorem dX4_init_145 : decode cX4_init 145 = .ok (.iconst 2, 1) := by decide +kernel
theorem dX4_init_146 : decode cX4_init 146 = .ok (.newarray .int, 2) := by decide +kernel
theorem dX4_init_148 : decode cX4_init 148 = .ok (.putfield 62, 3) := by decide +kernel
theorem dX4_init_151 : decode cX4_init 151 = .ok (.aload_n 0, 1) := by decide +kernel
theorem dX4_init_152 : decode cX4_init 152 = .ok (.iconst 2, 1) := by decide +kernel
theorem dX4_init_153 : decode cX4_init 153 = .ok (.newarray .int, 2) := by decide +kernel
theorem dX4_init_155 : decode cX4_init 155 = .ok (.putfield 65, 3) := by decide +kernel
theorem dX4_init_158 : decode cX4_init 158 = .ok (.aload_n 0, 1) := by decide +kernel
theorem dX4_init_159 : decode cX4_init 159 = .ok (.iconst 1, 1) := by decide +kernel
theorem dX4_init_160 : decode cX4_init 160 = .ok (.putfield 68, 3) := by decide +kernel
theorem dX4_init_163 : decode cX4_init 163 = .ok (.iconst 0, 1) := by decide +kernel
theorem dX4_init_164 : decode cX4_init 164 = .ok (.istore_n 1, 1) := by decide +kernel
theorem dX4_init_165 : decode cX4_init 165 = .ok (.iload_n 1, 1) := by decide +kernel
theorem dX4_init_166 : decode cX4_init 166 = .ok (.bipush 16, 2) := by decide +kernel
theorem dX4_init_168 : decode cX4_init 168 = .ok (.if_icmp .ge 16, 3) := by decide +kernel
theorem dX4_init_171 : decode cX4_init 171 = .ok (.aload_n 0, 1) := by decide +kernel
theorem dX4_init_172 : decode cX4_init 172 = .ok (.getfield 28, 3) := by decide +kernel
theorem dX4_init_175 : decode cX4_init 175 = .ok (.iload_n 1, 1) := by decide +kernel
theorem dX4_init_176 : decode cX4_init 176 = .ok (.iconst (-1), 1) := by decide +kernel
theorem dX4_init_177 : decode cX4_init 177 = .ok (.iastore, 1) := by decide +kernel
theorem dX4_init_178 : decode cX4_init 178 = .ok (.iinc 1 1, 3) := by decide +kernel
theorem dX4_init_181 : decode cX4_init 181 = .ok (.goto (-16), 3) := by decide +kernel
theorem dX4_init_184 : decode cX4_init 184 = .ok (.return_, 1) := by decide +kernel
theorem dX4_thrown_0 : decode cX4_thrown 0 = .ok (.aload_n 0, 1) := by decide +kernel
theorem dX4_thrown_1 : decode cX4_thrown 1 = .ok (.getfield 72, 3) := by decide +kernel
theorem dX4_thrown_4 : decode cX4_thrown 4 = .ok (.ireturn, 1) := by decide +kernel
theorem dX4_in_0 : decode cX4_in 0 = .ok (.iload_n 0, 1) := by decide +kernel
theorem dX4_in_1 : decode cX4_in 1 = .ok (.iload_n 1, 1) := by decide +kernel
theorem dX4_in_2 : decode cX4_in 2 = .ok (.if_icmp .lt 12, 3) := by decide +kernel
theorem dX4_in_5 : decode cX4_in 5 = .ok (.iload_n 0, 1) := by decide +kernel
theorem dX4_in_6 : decode cX4_in 6 = .ok (.iload_n 2, 1) := by decide +kernel
theorem dX4_in_7 : decode cX4_in 7 = .ok (.if_icmp .gt 7, 3) := by decide +kernel
theorem dX4_in_10 : decode cX4_in 10 = .ok (.iconst 1, 1) := by decide +kernel
theorem dX4_in_11 : decode cX4_in 11 = .ok (.goto 4, 3) := by decide +kernel
theorem dX4_in_14 : decode cX4_in 14 = .ok (.iconst 0, 1) := by decide +kernel
theorem dX4_in_15 : decode cX4_in 15 = .ok (.ireturn, 1) := by decide +kernel
set_option maxRecDepth 20000 in
theorem ggX4_isPart_X4_in : GoodIn wsX4_isPart wsX4_in := goodIn_r _ [5] (by decide +kernel) (by decide +kernel)
set_option maxRecDepth 20000 in
theorem gX4_isPart_X4_in : GoodIn wsX4_isPart (va_wsS RX4 78 yX4_in wsX4_in) := goodIn_app (goodIn_of _ (by decide +kernel)) ggX4_isPart_X4_in
theorem dX4_isPart_0 : decode cX4_isPart 0 = .ok (.iload_n 1, 1) := by decide +kernel
theorem dX4_isPart_1 : decode cX4_isPart 1 = .ok (.iconst 0, 1) := by decide +kernel
theorem dX4_isPart_2 : decode cX4_isPart 2 = .ok (.aload_n 0, 1) := by decide +kernel
theorem dX4_isPart_3 : decode cX4_isPart 3 = .ok (.getfield 75, 3) := by decide +kernel
theorem dX4_isPart_6 : decode cX4_isPart 6 = .ok (.iconst 1, 1) := by decide +kernel
theorem dX4_isPart_7 : decode cX4_isPart 7 = .ok (.isub, 1) := by decide +kernel
theorem dX4_isPart_8 : decode cX4_isPart 8 = .ok (.invokestatic 78, 3) := by decide +kernel
theorem dX4_isPart_11 : decode cX4_isPart 11 = .ok (.ireturn, 1) := by decide +kernel
theorem dX4_inputs_0 : decode cX4_inputs 0 = .ok (.iload_n 0, 1) := by decide +kernel
theorem dX4_inputs_1 : decode cX4_inputs 1 = .ok (.ifCond .ne 7, 3) := by decide +kernel
theorem dX4_inputs_4 : decode cX4_inputs 4 = .ok (.iconst 0, 1) := by decide +kernel
theorem dX4_inputs_5 : decode cX4_inputs 5 = .ok (.goto 18, 3) := by decide +kernel
theorem dX4_inputs_8 : decode cX4_inputs 8 = .ok (.iload_n 0, 1) := by decide +kernel
theorem dX4_inputs_9 : decode cX4_inputs 9 = .ok (.iconst 2, 1) := by decide +kernel
theorem dX4_inputs_10 : decode cX4_inputs 10 = .ok (.if_icmp .eq 8, 3) := by decide +kernel
theorem dX4_inputs_13 : decode cX4_inputs 13 = .ok (.iload_n 0, 1) := by decide +kernel
theorem dX4_inputs_14 : decode cX4_inputs 14 = .ok (.iconst 3, 1) := by decide +kernel
theorem dX4_inputs_15 : decode cX4_inputs 15 = .ok (.if_icmp .ne 7, 3) := by decide +kernel
theorem dX4_inputs_18 : decode cX4_inputs 18 = .ok (.iconst 2, 1) := by decide +kernel
theorem dX4_inputs_19 : decode cX4_inputs 19 = .ok (.goto 4, 3) := by decide +kernel
theorem dX4_inputs_22 : decode cX4_inputs 22 = .ok (.iconst 1, 1) := by decide +kernel
theorem dX4_inputs_23 : decode cX4_inputs 23 = .ok (.ireturn, 1) := by decide +kernel
theorem dX4_outputs_0 : decode cX4_outputs 0 = .ok (.iload_n 0, 1) := by decide +kernel
theorem dX4_outputs_1 : decode cX4_outputs 1 = .ok (.iconst 5, 1) := by decide +kernel
theorem dX4_outputs_2 : decode cX4_outputs 2 = .ok (.if_icmp .ne 7, 3) := by decide +kernel
theorem dX4_outputs_5 : decode cX4_outputs 5 = .ok (.iconst 0, 1) := by decide +kernel
theorem dX4_outputs_6 : decode cX4_outputs 6 = .ok (.goto 18, 3) := by decide +kernel
theorem dX4_outputs_9 : decode cX4_outputs 9 = .ok (.iload_n 0, 1) := by decide +kernel
theorem dX4_outputs_10 : decode cX4_outputs 10 = .ok (.iconst 2, 1) := by decide +kernel
theorem dX4_outputs_11 : decode cX4_outputs 11 = .ok (.if_icmp .eq 8, 3) := by decide +kernel
theorem dX4_outputs_14 : decode cX4_outputs 14 = .ok (.iload_n 0, 1) := by decide +kernel
theorem dX4_outputs_15 : decode cX4_outputs 15 = .ok (.iconst 3, 1) := by decide +kernel
theorem dX4_outputs_16 : decode cX4_outputs 16 = .ok (.if_icmp .ne 7, 3) := by decide +kernel
theorem dX4_outputs_19 : decode cX4_outputs 19 = .ok (.iconst 2, 1) := by decide +kernel
theorem dX4_outputs_20 : decode cX4_outputs 20 = .ok (.goto 4, 3) := by decide +kernel
theorem dX4_outputs_23 : decode cX4_outputs 23 = .ok (.iconst 1, 1) := by decide +kernel
theorem dX4_outputs_24 : decode cX4_outputs 24 = .ok (.ireturn, 1) := by decide +kernel
set_option maxRecDepth 20000 in
theorem ggX4_isFirst_X4_in : GoodIn wsX4_isFirst wsX4_in := goodIn_r _ [4] (by decide +kernel) (by decide +kernel)
set_option maxRecDepth 20000 in
theorem gX4_isFirst_X4_in : GoodIn wsX4_isFirst (va_wsS RX4 78 yX4_in wsX4_in) := goodIn_app (goodIn_of _ (by decide +kernel)) ggX4_isFirst_X4_in
theorem dX4_isFirst_0 : decode cX4_isFirst 0 = .ok (.iload_n 0, 1) := by decide +kernel
theorem dX4_isFirst_1 : decode cX4_isFirst 1 = .ok (.ifCond .eq 8, 3) := by decide +kernel
theorem dX4_isFirst_4 : decode cX4_isFirst 4 = .ok (.iload_n 0, 1) := by decide +kernel
theorem dX4_isFirst_5 : decode cX4_isFirst 5 = .ok (.iconst 3, 1) := by decide +kernel
theorem dX4_isFirst_6 : decode cX4_isFirst 6 = .ok (.if_icmp .ne 13, 3) := by decide +kernel
theorem dX4_isFirst_9 : decode cX4_isFirst 9 = .ok (.iload_n 1, 1) := by decide +kernel
theorem dX4_isFirst_10 : decode cX4_isFirst 10 = .ok (.iconst 0, 1) := by decide +kernel
theorem dX4_isFirst_11 : decode cX4_isFirst 11 = .ok (.bipush 7, 2) := by decide +kernel
theorem dX4_isFirst_13 : decode cX4_isFirst 13 = .ok (.invokestatic 78, 3) := by decide +kernel
theorem dX4_isFirst_16 : decode cX4_isFirst 16 = .ok (.goto 27, 3) := by decide +kernel
theorem dX4_isFirst_19 : decode cX4_isFirst 19 = .ok (.iload_n 0, 1) := by decide +kernel
theorem dX4_isFirst_20 : decode cX4_isFirst 20 = .ok (.iconst 1, 1) := by decide +kernel
theorem dX4_isFirst_21 : decode cX4_isFirst 21 = .ok (.if_icmp .ne 13, 3) := by decide +kernel
theorem dX4_isFirst_24 : decode cX4_isFirst 24 = .ok (.iload_n 1, 1) := by decide +kernel
theorem dX4_isFirst_25 : decode cX4_isFirst 25 = .ok (.iconst 1, 1) := by decide +kernel
theorem dX4_isFirst_26 : decode cX4_isFirst 26 = .ok (.bipush 8, 2) := by decide +kernel
theorem dX4_isFirst_28 : decode cX4_isFirst 28 = .ok (.invokestatic 78, 3) := by decide +kernel
theorem dX4_isFirst_31 : decode cX4_isFirst 31 = .ok (.goto 12, 3) := by decide +kernel
theorem dX4_isFirst_34 : decode cX4_isFirst 34 = .ok (.iload_n 1, 1) := by decide +kernel
theorem dX4_isFirst_35 : decode cX4_isFirst 35 = .ok (.ifCond .ne 7, 3) := by decide +kernel
theorem dX4_isFirst_38 : decode cX4_isFirst 38 = .ok (.iconst 1, 1) := by decide +kernel
theorem dX4_isFirst_39 : decode cX4_isFirst 39 = .ok (.goto 4, 3) := by decide +kernel
theorem dX4_isFirst_42 : decode cX4_isFirst 42 = .ok (.iconst 0, 1) := by decide +kernel
theorem dX4_isFirst_43 : decode cX4_isFirst 43 = .ok (.ireturn, 1) := by decide +kernel
set_option maxRecDepth 20000 in
theorem ggX4_isSecond_X4_in : GoodIn wsX4_isSecond wsX4_in := goodIn_r _ [4] (by decide +kernel) (by decide +kernel)
set_option maxRecDepth 20000 in
theorem gX4_isSecond_X4_in : GoodIn wsX4_isSecond (va_wsS RX4 78 yX4_in wsX4_in) := goodIn_app (goodIn_of _ (by decide +kernel)) ggX4_isSecond_X4_in
theorem dX4_isSecond_0 : decode cX4_isSecond 0 = .ok (.iload_n 0, 1) := by decide +kernel
theorem dX4_isSecond_1 : decode cX4_isSecond 1 = .ok (.ifCond .ne 9, 3) := by decide +kernel
theorem dX4_isSecond_4 : decode cX4_isSecond 4 = .ok (.sipush 999, 3) := by decide +kernel
theorem dX4_isSecond_7 : decode cX4_isSecond 7 = .ok (.goto 40, 3) := by decide +kernel
theorem dX4_isSecond_10 : decode cX4_isSecond 10 = .ok (.iload_n 0, 1) := by decide +kernel
theorem dX4_isSecond_11 : decode cX4_isSecond 11 = .ok (.iconst 1, 1) := by decide +kernel
theorem dX4_isSecond_12 : decode cX4_isSecond 12 = .ok (.if_icmp .eq 8, 3) := by decide +kernel
theorem dX4_isSecond_15 : decode cX4_isSecond 15 = .ok (.iload_n 0, 1) := by decide +kernel
theorem dX4_isSecond_16 : decode cX4_isSecond 16 = .ok (.iconst 2, 1) := by decide +kernel
theorem dX4_isSecond_17 : decode cX4_isSecond 17 = .ok (.if_icmp .ne 8, 3) := by decide +kernel
theorem dX4_isSecond_20 : decode cX4_isSecond 20 = .ok (.bipush 100, 2) := by decide +kernel
theorem dX4_isSecond_22 : decode cX4_isSecond 22 = .ok (.goto 25, 3) := by decide +kernel
theorem dX4_isSecond_25 : decode cX4_isSecond 25 = .ok (.iload_n 0, 1) := by decide +kernel
theorem dX4_isSecond_26 : decode cX4_isSecond 26 = .ok (.iconst 3, 1) := by decide +kernel
theorem dX4_isSecond_27 : decode cX4_isSecond 27 = .ok (.if_icmp .ne 8, 3) := by decide +kernel
theorem dX4_isSecond_30 : decode cX4_isSecond 30 = .ok (.bipush 99, 2) := by decide +kernel
theorem dX4_isSecond_32 : decode cX4_isSecond 32 = .ok (.goto 15, 3) := by decide +kernel
theorem dX4_isSecond_35 : decode cX4_isSecond 35 = .ok (.iload_n 0, 1) := by decide +kernel
theorem dX4_isSecond_36 : decode cX4_isSecond 36 = .ok (.iconst 4, 1) := by decide +kernel
theorem dX4_isSecond_37 : decode cX4_isSecond 37 = .ok (.if_icmp .ne 9, 3) := by decide +kernel
theorem dX4_isSecond_40 : decode cX4_isSecond 40 = .ok (.sipush 255, 3) := by decide +kernel
theorem dX4_isSecond_43 : decode cX4_isSecond 43 = .ok (.goto 4, 3) := by decide +kernel
theorem dX4_isSecond_46 : decode cX4_isSecond 46 = .ok (.iconst 0, 1) := by decide +kernel
theorem dX4_isSecond_47 : decode cX4_isSecond 47 = .ok (.istore_n 2, 1) := by decide +kernel
theorem dX4_isSecond_48 : decode cX4_isSecond 48 = .ok (.iload_n 1, 1) := by decide +kernel
theorem dX4_isSecond_49 : decode cX4_isSecond 49 = .ok (.iconst 0, 1) := by decide +kernel
theorem dX4_isSecond_50 : decode cX4_isSecond 50 = .ok (.iload_n 2, 1) := by decide +kernel
theorem dX4_isSecond_51 : decode cX4_isSecond 51 = .ok (.invokestatic 78, 3) := by decide +kernel
theorem dX4_isSecond_54 : decode cX4_isSecond 54 = .ok (.ireturn, 1) := by decide +kernel
theorem dX4_distance_0 : decode cX4_distance 0 = .ok (.aload_n 0, 1) := by decide +kernel
theorem dX4_distance_1 : decode cX4_distance 1 = .ok (.getfield 13, 3) := by decide +kernel
theorem dX4_distance_4 : decode cX4_distance 4 = .ok (.iload_n 1, 1) := by decide +kernel
theorem dX4_distance_5 : decode cX4_distance 5 = .ok (.iaload, 1) := by decide +kernel
theorem dX4_distance_6 : decode cX4_distance 6 = .ok (.aload_n 0, 1) := by decide +kernel
theorem dX4_distance_7 : decode cX4_distance 7 = .ok (.getfield 13, 3) := by decide +kernel
theorem dX4_distance_10 : decode cX4_distance 10 = .ok (.iload_n 2, 1) := by decide +kernel
theorem dX4_distance_11 : decode cX4_distance 11 = .ok (.iaload, 1) := by decide +kernel
theorem dX4_distance_12 : decode cX4_distance 12 = .ok (.if_icmp .ge 19, 3) := by decide +kernel
theorem dX4_distance_15 : decode cX4_distance 15 = .ok (.aload_n 0, 1) := by decide +kernel
theorem dX4_distance_16 : decode cX4_distance 16 = .ok (.getfield 13, 3) := by decide +kernel
theorem dX4_distance_19 : decode cX4_distance 19 = .ok (.iload_n 2, 1) := by decide +kernel
theorem dX4_distance_20 : decode cX4_distance 20 = .ok (.iaload, 1) := by decide +kernel
theorem dX4_distance_21 : decode cX4_distance 21 = .ok (.aload_n 0, 1) := by decide +kernel
theorem dX4_distance_22 : decode cX4_distance 22 = .ok (.getfield 13, 3) := by decide +kernel
theorem dX4_distance_25 : decode cX4_distance 25 = .ok (.iload_n 1, 1) := by decide +kernel
theorem dX4_distance_26 : decode cX4_distance 26 = .ok (.iaload, 1) := by decide +kernel
theorem dX4_distance_27 : decode cX4_distance 27 = .ok (.isub, 1) := by decide +kernel
theorem dX4_distance_28 : decode cX4_distance 28 = .ok (.goto 16, 3) := by decide +kernel
theorem dX4_distance_31 : decode cX4_distance 31 = .ok (.aload_n 0, 1) := by decide +kernel
theorem dX4_distance_32 : decode cX4_distance 32 = .ok (.getfield 13, 3) := by decide +kernel
theorem dX4_distance_35 : decode cX4_distance 35 = .ok (.iload_n 1, 1) := by decide +kernel
theorem dX4_distance_36 : decode cX4_distance 36 = .ok (.iaload, 1) := by decide +kernel
theorem dX4_distance_37 : decode cX4_distance 37 = .ok (.aload_n 0, 1) := by decide +kernel
theorem dX4_distance_38 : decode cX4_distance 38 = .ok (.getfield 13, 3) := by decide +kernel
theorem dX4_distance_41 : decode cX4_distance 41 = .ok (.iload_n 2, 1) := by decide +kernel
theorem dX4_distance_42 : decode cX4_distance 42 = .ok (.iaload, 1) := by decide +kernel
theorem dX4_distance_43 : decode cX4_distance 43 = .ok (.isub, 1) := by decide +kernel
theorem dX4_distance_44 : decode cX4_distance 44 = .ok (.istore_n 3, 1) := by decide +kernel
theorem dX4_distance_45 : decode cX4_distance 45 = .ok (.aload_n 0, 1) := by decide +kernel
theorem dX4_distance_46 : decode cX4_distance 46 = .ok (.getfield 16, 3) := by decide +kernel
theorem dX4_distance_49 : decode cX4_distance 49 = .ok (.iload_n 1, 1) := by decide +kernel
theorem dX4_distance_50 : decode cX4_distance 50 = .ok (.iaload, 1) := by decide +kernel
theorem dX4_distance_51 : decode cX4_distance 51 = .ok (.aload_n 0, 1) := by decide +kernel
theorem dX4_distance_52 : decode cX4_distance 52 = .ok (.getfield 16, 3) := by decide +kernel
theorem dX4_distance_55 : decode cX4_distance 55 = .ok (.iload_n 2, 1) := by decide +kernel
theorem dX4_distance_56 : decode cX4_distance 56 = .ok (.iaload, 1) := by decide +kernel
theorem dX4_distance_57 : decode cX4_distance 57 = .ok (.if_icmp .ge 19, 3) := by decide +kernel
theorem dX4_distance_60 : decode cX4_distance 60 = .ok (.aload_n 0, 1) := by decide +kernel
theorem dX4_distance_61 : decode cX4_distance 61 = .ok (.getfield 16, 3) := by decide +kernel
theorem dX4_distance_64 : decode cX4_distance 64 = .ok (.iload_n 2, 1) := by decide +kernel
theorem dX4_distance_65 : decode cX4_distance 65 = .ok (.iaload, 1) := by decide +kernel
theorem dX4_distance_66 : decode cX4_distance 66 = .ok (.aload_n 0, 1) := by decide +kernel
theorem dX4_distance_67 : decode cX4_distance 67 = .ok (.getfield 16, 3) := by decide +kernel
theorem dX4_distance_70 : decode cX4_distance 70 = .ok (.iload_n 1, 1) := by decide +kernel
theorem dX4_distance_71 : decode cX4_distance 71 = .ok (.iaload, 1) := by decide +kernel
theorem dX4_distance_72 : decode cX4_distance 72 = .ok (.isub, 1) := by decide +kernel
theorem dX4_distance_73 : decode cX4_distance 73 = .ok (.goto 16, 3) := by decide +kernel
theorem dX4_distance_76 : decode cX4_distance 76 = .ok (.aload_n 0, 1) := by decide +kernel
theorem dX4_distance_77 : decode cX4_distance 77 = .ok (.getfield 16, 3) := by decide +kernel
theorem dX4_distance_80 : decode cX4_distance 80 = .ok (.iload_n 1, 1) := by decide +kernel
theorem dX4_distance_81 : decode cX4_distance 81 = .ok (.iaload, 1) := by decide +kernel
theorem dX4_distance_82 : decode cX4_distance 82 = .ok (.aload_n 0, 1) := by decide +kernel
theorem dX4_distance_83 : decode cX4_distance 83 = .ok (.getfield 16, 3) := by decide +kernel
theorem dX4_distance_86 : decode cX4_distance 86 = .ok (.iload_n 2, 1) := by decide +kernel
theorem dX4_distance_87 : decode cX4_distance 87 = .ok (.iaload, 1) := by decide +kernel
theorem dX4_distance_88 : decode cX4_distance 88 = .ok (.isub, 1) := by decide +kernel
theorem dX4_distance_89 : decode cX4_distance 89 = .ok (.istore 4, 2) := by decide +kernel
theorem dX4_distance_91 : decode cX4_distance 91 = .ok (.iload_n 3, 1) := by decide +kernel
theorem dX4_distance_92 : decode cX4_distance 92 = .ok (.iload 4, 2) := by decide +kernel
theorem dX4_distance_94 : decode cX4_distance 94 = .ok (.iadd, 1) := by decide +kernel
theorem dX4_distance_95 : decode cX4_distance 95 = .ok (.ireturn, 1) := by decide +kernel
set_option maxRecDepth 20000 in
theorem ggX4_target_X4_distance : GoodIn wsX4_target wsX4_distance := goodIn_r _ [8, 9, 10, 11, 12, 13, 14, 15, 16, 17, 18, 19, 20, 21, 22, 23, 24, 25, 26, 27, 28, 29, 30, 31, 32, 33, 34, 35] (by decide +kernel) (by decide +kernel)
set_option maxRecDepth 20000 in
theorem gX4_target_X4_distance : GoodIn wsX4_target (wsV RX4 82 RX4 yX4_distance wsX4_distance) := goodIn_app (goodIn_of _ (by decide +kernel)) ggX4_target_X4_distance
theorem dX4_target_0 : decode cX4_target 0 = .ok (.iconst 4, 1) := by decide +kernel
theorem dX4_target_1 : decode cX4_target 1 = .ok (.aload_n 0, 1) := by decide +kernel
theorem dX4_target_2 : decode cX4_target 2 = .ok (.getfield 22, 3) := by decide +kernel
theorem dX4_target_5 : decode cX4_target 5 = .ok (.iload_n 1, 1) := by decide +kernel
theorem dX4_target_6 : decode cX4_target 6 = .ok (.iaload, 1) := by decide +kernel
theorem dX4_target_7 : decode cX4_target 7 = .ok (.imul, 1) := by decide +kernel
theorem dX4_target_8 : decode cX4_target 8 = .ok (.istore_n 2, 1) := by decide +kernel
theorem dX4_target_9 : decode cX4_target 9 = .ok (.iconst 0, 1) := by decide +kernel
theorem dX4_target_10 : decode cX4_target 10 = .ok (.istore_n 3, 1) := by decide +kernel
theorem dX4_target_11 : decode cX4_target 11 = .ok (.iload_n 3, 1) := by decide +kernel
theorem dX4_target_12 : decode cX4_target 12 = .ok (.aload_n 0, 1) := by decide +kernel
theorem dX4_target_13 : decode cX4_target 13 = .ok (.getfield 75, 3) := by decide +kernel
theorem dX4_target_16 : decode cX4_target 16 = .ok (.if_icmp .ge 57, 3) := by decide +kernel
theorem dX4_target_19 : decode cX4_target 19 = .ok (.aload_n 0, 1) := by decide +kernel
theorem dX4_target_20 : decode cX4_target 20 = .ok (.iload_n 1, 1) := by decide +kernel
theorem dX4_target_21 : decode cX4_target 21 = .ok (.iload_n 3, 1) := by decide +kernel
theorem dX4_target_22 : decode cX4_target 22 = .ok (.invokevirtual 82, 3) := by decide +kernel
theorem dX4_target_25 : decode cX4_target 25 = .ok (.istore 4, 2) := by decide +kernel
theorem dX4_target_27 : decode cX4_target 27 = .ok (.iload_n 2, 1) := by decide +kernel
theorem dX4_target_28 : decode cX4_target 28 = .ok (.iload_n 3, 1) := by decide +kernel
theorem dX4_target_29 : decode cX4_target 29 = .ok (.iload_n 1, 1) := by decide +kernel
theorem dX4_target_30 : decode cX4_target 30 = .ok (.if_icmp .eq 34, 3) := by decide +kernel
theorem dX4_target_33 : decode cX4_target 33 = .ok (.aload_n 0, 1) := by decide +kernel
theorem dX4_target_34 : decode cX4_target 34 = .ok (.getfield 7, 3) := by decide +kernel
theorem dX4_target_37 : decode cX4_target 37 = .ok (.iload_n 3, 1) := by decide +kernel
theorem dX4_target_38 : decode cX4_target 38 = .ok (.iaload, 1) := by decide +kernel
theorem dX4_target_39 : decode cX4_target 39 = .ok (.iconst 3, 1) := by decide +kernel
theorem dX4_target_40 : decode cX4_target 40 = .ok (.if_icmp .ne 24, 3) := by decide +kernel
theorem dX4_target_43 : decode cX4_target 43 = .ok (.aload_n 0, 1) := by decide +kernel
theorem dX4_target_44 : decode cX4_target 44 = .ok (.getfield 22, 3) := by decide +kernel
theorem dX4_target_47 : decode cX4_target 47 = .ok (.iload_n 3, 1) := by decide +kernel
theorem dX4_target_48 : decode cX4_target 48 = .ok (.iaload, 1) := by decide +kernel
theorem dX4_target_49 : decode cX4_target 49 = .ok (.iload 4, 2) := by decide +kernel
theorem dX4_target_51 : decode cX4_target 51 = .ok (.ifCond .ne 7, 3) := by decide +kernel
theorem dX4_target_54 : decode cX4_target 54 = .ok (.iconst 1, 1) := by decide +kernel
theorem dX4_target_55 : decode cX4_target 55 = .ok (.goto 5, 3) := by decide +kernel
theorem dX4_target_58 : decode cX4_target 58 = .ok (.iload 4, 2) := by decide +kernel
theorem dX4_target_60 : decode cX4_target 60 = .ok (.idiv, 1) := by decide +kernel
theorem dX4_target_61 : decode cX4_target 61 = .ok (.goto 4, 3) := by decide +kernel
theorem dX4_target_64 : decode cX4_target 64 = .ok (.iconst 0, 1) := by decide +kernel
theorem dX4_target_65 : decode cX4_target 65 = .ok (.iadd, 1) := by decide +kernel
theorem dX4_target_66 : decode cX4_target 66 = .ok (.istore_n 2, 1) := by decide +kernel
theorem dX4_target_67 : decode cX4_target 67 = .ok (.iinc 3 1, 3) := by decide +kernel
theorem dX4_target_70 : decode cX4_target 70 = .ok (.goto (-59), 3) := by decide +kernel
theorem dX4_target_73 : decode cX4_target 73 = .ok (.iload_n 2, 1) := by decide +kernel
theorem dX4_target_74 : decode cX4_target 74 = .ok (.ireturn, 1) := by decide +kernel
theorem dX4_center_0 : decode cX4_center 0 = .ok (.aload_n 0, 1) := by decide +kernel
theorem dX4_center_1 : decode cX4_center 1 = .ok (.getfield 19, 3) := by decide +kernel
theorem dX4_center_4 : decode cX4_center 4 = .ok (.iload_n 2, 1) := by decide +kernel
theorem dX4_center_5 : decode cX4_center 5 = .ok (.iaload, 1) := by decide +kernel
theorem dX4_center_6 : decode cX4_center 6 = .ok (.aload_n 0, 1) := by decide +kernel
theorem dX4_center_7 : decode cX4_center 7 = .ok (.getfield 65, 3) := by decide +kernel
theorem dX4_center_10 : decode cX4_center 10 = .ok (.iload_n 1, 1) := by decide +kernel
theorem dX4_center_11 : decode cX4_center 11 = .ok (.iaload, 1) := by decide +kernel
theorem dX4_center_12 : decode cX4_center 12 = .ok (.iadd, 1) := by decide +kernel
theorem dX4_center_13 : decode cX4_center 13 = .ok (.aload_n 0, 1) := by decide +kernel
theorem dX4_center_14 : decode cX4_center 14 = .ok (.getfield 59, 3) := by decide +kernel
theorem dX4_center_17 : decode cX4_center 17 = .ok (.bipush 16, 2) := by decide +kernel
theorem dX4_center_19 : decode cX4_center 19 = .ok (.iload_n 1, 1) := by decide +kernel
theorem dX4_center_20 : decode cX4_center 20 = .ok (.imul, 1) := by decide +kernel
theorem dX4_center_21 : decode cX4_center 21 = .ok (.iload_n 2, 1) := by decide +kernel
theorem dX4_center_22 : decode cX4_center 22 = .ok (.iadd, 1) := by decide +kernel
theorem dX4_center_23 : decode cX4_center 23 = .ok (.iaload, 1) := by decide +kernel
theorem dX4_center_24 : decode cX4_center 24 = .ok (.bipush 16, 2) := by decide +kernel
theorem dX4_center_26 : decode cX4_center 26 = .ok (.idiv, 1) := by decide +kernel
theorem dX4_center_27 : decode cX4_center 27 = .ok (.iadd, 1) := by decide +kernel
theorem dX4_center_28 : decode cX4_center 28 = .ok (.bipush 64, 2) := by decide +kernel
theorem dX4_center_30 : decode cX4_center 30 = .ok (.iadd, 1) := by decide +kernel
theorem dX4_center_31 : decode cX4_center 31 = .ok (.bipush 8, 2) := by decide +kernel
theorem dX4_center_33 : decode cX4_center 33 = .ok (.irem, 1) := by decide +kernel
theorem dX4_center_34 : decode cX4_center 34 = .ok (.ireturn, 1) := by decide +kernel
theorem dX4_gives_0 : decode cX4_gives 0 = .ok (.aload_n 0, 1) := by decide +kernel
theorem dX4_gives_1 : decode cX4_gives 1 = .ok (.getfield 25, 3) := by decide +kernel
theorem dX4_gives_4 : decode cX4_gives 4 = .ok (.iconst 2, 1) := by decide +kernel
theorem dX4_gives_5 : decode cX4_gives 5 = .ok (.iload_n 2, 1) := by decide +kernel
theorem dX4_gives_6 : decode cX4_gives 6 = .ok (.imul, 1) := by decide +kernel
theorem dX4_gives_7 : decode cX4_gives 7 = .ok (.iload_n 3, 1) := by decide +kernel
theorem dX4_gives_8 : decode cX4_gives 8 = .ok (.iadd, 1) := by decide +kernel
theorem dX4_gives_9 : decode cX4_gives 9 = .ok (.iaload, 1) := by decide +kernel
theorem dX4_gives_10 : decode cX4_gives 10 = .ok (.iconst 1, 1) := by decide +kernel
theorem dX4_gives_11 : decode cX4_gives 11 = .ok (.isub, 1) := by decide +kernel
theorem dX4_gives_12 : decode cX4_gives 12 = .ok (.istore 7, 2) := by decide +kernel
theorem dX4_gives_14 : decode cX4_gives 14 = .ok (.iload 7, 2) := by decide +kernel
theorem dX4_gives_16 : decode cX4_gives 16 = .ok (.ifCond .lt 24, 3) := by decide +kernel
theorem dX4_gives_19 : decode cX4_gives 19 = .ok (.aload_n 0, 1) := by decide +kernel
theorem dX4_gives_20 : decode cX4_gives 20 = .ok (.getfield 50, 3) := by decide +kernel
theorem dX4_gives_23 : decode cX4_gives 23 = .ok (.bipush 8, 2) := by decide +kernel
theorem dX4_gives_25 : decode cX4_gives 25 = .ok (.iload 7, 2) := by decide +kernel
theorem dX4_gives_27 : decode cX4_gives 27 = .ok (.imul, 1) := by decide +kernel
theorem dX4_gives_28 : decode cX4_gives 28 = .ok (.iload 4, 2) := by decide +kernel
theorem dX4_gives_30 : decode cX4_gives 30 = .ok (.iadd, 1) := by decide +kernel
theorem dX4_gives_31 : decode cX4_gives 31 = .ok (.dup2, 1) := by decide +kernel
theorem dX4_gives_32 : decode cX4_gives 32 = .ok (.laload, 1) := by decide +kernel
theorem dX4_gives_33 : decode cX4_gives 33 = .ok (.lload 5, 2) := by decide +kernel
theorem dX4_gives_35 : decode cX4_gives 35 = .ok (.ladd, 1) := by decide +kernel
theorem dX4_gives_36 : decode cX4_gives 36 = .ok (.lastore, 1) := by decide +kernel
theorem dX4_gives_37 : decode cX4_gives 37 = .ok (.goto 18, 3) := by decide +kernel
theorem dX4_gives_40 : decode cX4_gives 40 = .ok (.iload_n 1, 1) := by decide +kernel
theorem dX4_gives_41 : decode cX4_gives 41 = .ok (.ifCond .ne 14, 3) := by decide +kernel
theorem dX4_gives_44 : decode cX4_gives 44 = .ok (.aload_n 0, 1) := by decide +kernel
theorem dX4_gives_45 : decode cX4_gives 45 = .ok (.dup, 1) := by decide +kernel
theorem dX4_gives_46 : decode cX4_gives 46 = .ok (.getfield 86, 3) := by decide +kernel
theorem dX4_gives_49 : decode cX4_gives 49 = .ok (.lload 5, 2) := by decide +kernel
theorem dX4_gives_51 : decode cX4_gives 51 = .ok (.ladd, 1) := by decide +kernel
theorem dX4_gives_52 : decode cX4_gives 52 = .ok (.putfield 86, 3) := by decide +kernel
theorem dX4_gives_55 : decode cX4_gives 55 = .ok (.return_, 1) := by decide +kernel
theorem dX4_loses_0 : decode cX4_loses 0 = .ok (.aload_n 0, 1) := by decide +kernel
theorem dX4_loses_1 : decode cX4_loses 1 = .ok (.dup, 1) := by decide +kernel
theorem dX4_loses_2 : decode cX4_loses 2 = .ok (.getfield 90, 3) := by decide +kernel
theorem dX4_loses_5 : decode cX4_loses 5 = .ok (.iload_n 1, 1) := by decide +kernel
theorem dX4_loses_6 : decode cX4_loses 6 = .ok (.ifCond .ne 7, 3) := by decide +kernel
theorem dX4_loses_9 : decode cX4_loses 9 = .ok (.lload_n 2, 1) := by decide +kernel
theorem dX4_loses_10 : decode cX4_loses 10 = .ok (.goto 4, 3) := by decide +kernel
theorem dX4_loses_13 : decode cX4_loses 13 = .ok (.lconst 0, 1) := by decide +kernel
theorem dX4_loses_14 : decode cX4_loses 14 = .ok (.ladd, 1) := by decide +kernel
theorem dX4_loses_15 : decode cX4_loses 15 = .ok (.putfield 90, 3) := by decide +kernel
theorem dX4_loses_18 : decode cX4_loses 18 = .ok (.return_, 1) := by decide +kernel
set_option maxRecDepth 20000 in
theorem ggX4_share_X4_center : GoodIn wsX4_share wsX4_center := goodIn_r _ [7, 8, 9, 10, 11, 12, 13, 14, 15, 16, 17, 18, 19, 20, 21, 22, 23, 24, 25, 26, 27, 28, 29, 30, 31, 32, 33, 34, 35] (by decide +kernel) (by decide +kernel)
set_option maxRecDepth 20000 in
theorem gX4_share_X4_center : GoodIn wsX4_share (wsV RX4 93 RX4 yX4_center wsX4_center) := goodIn_app (goodIn_of _ (by decide +kernel)) ggX4_share_X4_center
theorem dX4_share_0 : decode cX4_share 0 = .ok (.iload_n 3, 1) := by decide +kernel
theorem dX4_share_1 : decode cX4_share 1 = .ok (.aload_n 0, 1) := by decide +kernel
theorem dX4_share_2 : decode cX4_share 2 = .ok (.iload_n 1, 1) := by decide +kernel
theorem dX4_share_3 : decode cX4_share 3 = .ok (.iload_n 2, 1) := by decide +kernel
theorem dX4_share_4 : decode cX4_share 4 = .ok (.invokevirtual 93, 3) := by decide +kernel
theorem dX4_share_7 : decode cX4_share 7 = .ok (.isub, 1) := by decide +kernel
theorem dX4_share_8 : decode cX4_share 8 = .ok (.bipush 8, 2) := by decide +kernel
theorem dX4_share_10 : decode cX4_share 10 = .ok (.iadd, 1) := by decide +kernel
theorem dX4_share_11 : decode cX4_share 11 = .ok (.bipush 8, 2) := by decide +kernel
theorem dX4_share_13 : decode cX4_share 13 = .ok (.irem, 1) := by decide +kernel
theorem dX4_share_14 : decode cX4_share 14 = .ok (.istore 4, 2) := by decide +kernel
theorem dX4_share_16 : decode cX4_share 16 = .ok (.aload_n 0, 1) := by decide +kernel
theorem dX4_share_17 : decode cX4_share 17 = .ok (.getfield 7, 3) := by decide +kernel
theorem dX4_share_20 : decode cX4_share 20 = .ok (.iload_n 2, 1) := by decide +kernel
theorem dX4_share_21 : decode cX4_share 21 = .ok (.iaload, 1) := by decide +kernel
theorem dX4_share_22 : decode cX4_share 22 = .ok (.iconst 2, 1) := by decide +kernel
theorem dX4_share_23 : decode cX4_share 23 = .ok (.if_icmp .ne 12, 3) := by decide +kernel
theorem dX4_share_26 : decode cX4_share 26 = .ok (.aload_n 0, 1) := by decide +kernel
theorem dX4_share_27 : decode cX4_share 27 = .ok (.getfield 22, 3) := by decide +kernel
theorem dX4_share_30 : decode cX4_share 30 = .ok (.iload_n 2, 1) := by decide +kernel
theorem dX4_share_31 : decode cX4_share 31 = .ok (.iaload, 1) := by decide +kernel
theorem dX4_share_32 : decode cX4_share 32 = .ok (.goto 32, 3) := by decide +kernel
theorem dX4_share_35 : decode cX4_share 35 = .ok (.iload 4, 2) := by decide +kernel
theorem dX4_share_37 : decode cX4_share 37 = .ok (.ifCond .ne 8, 3) := by decide +kernel
theorem dX4_share_40 : decode cX4_share 40 = .ok (.bipush 90, 2) := by decide +kernel
theorem dX4_share_42 : decode cX4_share 42 = .ok (.goto 22, 3) := by decide +kernel
theorem dX4_share_45 : decode cX4_share 45 = .ok (.iload 4, 2) := by decide +kernel
theorem dX4_share_47 : decode cX4_share 47 = .ok (.iconst 1, 1) := by decide +kernel
theorem dX4_share_48 : decode cX4_share 48 = .ok (.if_icmp .eq 10, 3) := by decide +kernel
theorem dX4_share_51 : decode cX4_share 51 = .ok (.iload 4, 2) := by decide +kernel
theorem dX4_share_53 : decode cX4_share 53 = .ok (.bipush 7, 2) := by decide +kernel
theorem dX4_share_55 : decode cX4_share 55 = .ok (.if_icmp .ne 8, 3) := by decide +kernel
theorem dX4_share_58 : decode cX4_share 58 = .ok (.bipush 20, 2) := by decide +kernel
theorem dX4_share_60 : decode cX4_share 60 = .ok (.goto 4, 3) := by decide +kernel
theorem dX4_share_63 : decode cX4_share 63 = .ok (.iconst 0, 1) := by decide +kernel
theorem dX4_share_64 : decode cX4_share 64 = .ok (.ireturn, 1) := by decide +kernel
set_option maxRecDepth 20000 in
theorem ggX4_shares_X4_share : GoodIn wsX4_shares wsX4_share := goodIn_r _ [9, 10, 11, 12, 13, 14, 8, 15, 16, 17, 18, 26, 27, 28, 29, 30, 31, 32, 33, 34, 35, 36, 37, 38, 39, 40, 41, 42, 43, 44, 45, 46, 47, 48, 49, 50] (by decide +kernel) (by decide +kernel)
set_option maxRecDepth 20000 in
theorem gX4_shares_X4_share : GoodIn wsX4_shares (wsV RX4 96 RX4 yX4_share wsX4_share) := goodIn_app (goodIn_of _ (by decide +kernel)) ggX4_shares_X4_share
set_option maxRecDepth 20000 in
theorem ggX4_shares_X4_gives : GoodIn wsX4_shares wsX4_gives := goodIn_r _ [22, 23, 24, 25, 26, 27, 28, 29, 30, 31, 32, 33, 34, 35, 36, 37, 38, 39, 40, 41, 42, 43, 44, 45, 46, 47, 48, 49, 50] (by decide +kernel) (by decide +kernel)
set_option maxRecDepth 20000 in
theorem gX4_shares_X4_gives : GoodIn wsX4_shares (wsV RX4 102 RX4 yX4_gives wsX4_gives) := goodIn_app (goodIn_of _ (by decide +kernel)) ggX4_shares_X4_gives
theorem dX4_shares_0 : decode cX4_shares 0 = .ok (.iconst 0, 1) := by decide +kernel
theorem dX4_shares_1 : decode cX4_shares 1 = .ok (.istore 4, 2) := by decide +kernel
theorem dX4_shares_3 : decode cX4_shares 3 = .ok (.iload 4, 2) := by decide +kernel
theorem dX4_shares_5 : decode cX4_shares 5 = .ok (.iconst 2, 1) := by decide +kernel
theorem dX4_shares_6 : decode cX4_shares 6 = .ok (.if_icmp .ge 106, 3) := by decide +kernel
theorem dX4_shares_9 : decode cX4_shares 9 = .ok (.aload_n 0, 1) := by decide +kernel
theorem dX4_shares_10 : decode cX4_shares 10 = .ok (.getfield 47, 3) := by decide +kernel
theorem dX4_shares_13 : decode cX4_shares 13 = .ok (.sipush 256, 3) := by decide +kernel
theorem dX4_shares_16 : decode cX4_shares 16 = .ok (.iload_n 1, 1) := by decide +kernel
theorem dX4_shares_17 : decode cX4_shares 17 = .ok (.imul, 1) := by decide +kernel
theorem dX4_shares_18 : decode cX4_shares 18 = .ok (.bipush 8, 2) := by decide +kernel
theorem dX4_shares_20 : decode cX4_shares 20 = .ok (.iconst 2, 1) := by decide +kernel
theorem dX4_shares_21 : decode cX4_shares 21 = .ok (.iload_n 2, 1) := by decide +kernel
theorem dX4_shares_22 : decode cX4_shares 22 = .ok (.imul, 1) := by decide +kernel
theorem dX4_shares_23 : decode cX4_shares 23 = .ok (.iload 4, 2) := by decide +kernel
theorem dX4_shares_25 : decode cX4_shares 25 = .ok (.iadd, 1) := by decide +kernel
theorem dX4_shares_26 : decode cX4_shares 26 = .ok (.imul, 1) := by decide +kernel
theorem dX4_shares_27 : decode cX4_shares 27 = .ok (.iadd, 1) := by decide +kernel
theorem dX4_shares_28 : decode cX4_shares 28 = .ok (.iload_n 3, 1) := by decide +kernel
theorem dX4_shares_29 : decode cX4_shares 29 = .ok (.iadd, 1) := by decide +kernel
theorem dX4_shares_30 : decode cX4_shares 30 = .ok (.laload, 1) := by decide +kernel
theorem dX4_shares_31 : decode cX4_shares 31 = .ok (.lstore 5, 2) := by decide +kernel
theorem dX4_shares_33 : decode cX4_shares 33 = .ok (.lload 5, 2) := by decide +kernel
theorem dX4_shares_35 : decode cX4_shares 35 = .ok (.aload_n 0, 1) := by decide +kernel
theorem dX4_shares_36 : decode cX4_shares 36 = .ok (.iload_n 1, 1) := by decide +kernel
theorem dX4_shares_37 : decode cX4_shares 37 = .ok (.iload_n 2, 1) := by decide +kernel
theorem dX4_shares_38 : decode cX4_shares 38 = .ok (.iload_n 3, 1) := by decide +kernel
theorem dX4_shares_39 : decode cX4_shares 39 = .ok (.invokevirtual 96, 3) := by decide +kernel
theorem dX4_shares_42 : decode cX4_shares 42 = .ok (.i2l, 1) := by decide +kernel
theorem dX4_shares_43 : decode cX4_shares 43 = .ok (.lmul, 1) := by decide +kernel
theorem dX4_shares_44 : decode cX4_shares 44 = .ok (.ldc2_w 100, 3) := by decide +kernel
theorem dX4_shares_47 : decode cX4_shares 47 = .ok (.ldiv, 1) := by decide +kernel
theorem dX4_shares_48 : decode cX4_shares 48 = .ok (.lstore 7, 2) := by decide +kernel
theorem dX4_shares_50 : decode cX4_shares 50 = .ok (.aload_n 0, 1) := by decide +kernel
theorem dX4_shares_51 : decode cX4_shares 51 = .ok (.iload_n 1, 1) := by decide +kernel
theorem dX4_shares_52 : decode cX4_shares 52 = .ok (.iload_n 2, 1) := by decide +kernel
theorem dX4_shares_53 : decode cX4_shares 53 = .ok (.iconst 1, 1) := by decide +kernel
theorem dX4_shares_54 : decode cX4_shares 54 = .ok (.iload 4, 2) := by decide +kernel
theorem dX4_shares_56 : decode cX4_shares 56 = .ok (.isub, 1) := by decide +kernel
theorem dX4_shares_57 : decode cX4_shares 57 = .ok (.iload_n 3, 1) := by decide +kernel
theorem dX4_shares_58 : decode cX4_shares 58 = .ok (.lload 7, 2) := by decide +kernel
theorem dX4_shares_60 : decode cX4_shares 60 = .ok (.invokevirtual 102, 3) := by decide +kernel
theorem dX4_shares_63 : decode cX4_shares 63 = .ok (.aload_n 0, 1) := by decide +kernel
theorem dX4_shares_64 : decode cX4_shares 64 = .ok (.iload_n 1, 1) := by decide +kernel
theorem dX4_shares_65 : decode cX4_shares 65 = .ok (.iload_n 2, 1) := by decide +kernel
theorem dX4_shares_66 : decode cX4_shares 66 = .ok (.iload 4, 2) := by decide +kernel
theorem dX4_shares_68 : decode cX4_shares 68 = .ok (.iload_n 3, 1) := by decide +kernel
theorem dX4_shares_69 : decode cX4_shares 69 = .ok (.lload 5, 2) := by decide +kernel
theorem dX4_shares_71 : decode cX4_shares 71 = .ok (.lload 7, 2) := by decide +kernel
theorem dX4_shares_73 : decode cX4_shares 73 = .ok (.lsub, 1) := by decide +kernel
theorem dX4_shares_74 : decode cX4_shares 74 = .ok (.invokevirtual 102, 3) := by decide +kernel
theorem dX4_shares_77 : decode cX4_shares 77 = .ok (.aload_n 0, 1) := by decide +kernel
theorem dX4_shares_78 : decode cX4_shares 78 = .ok (.getfield 44, 3) := by decide +kernel
theorem dX4_shares_81 : decode cX4_shares 81 = .ok (.iload_n 2, 1) := by decide +kernel
theorem dX4_shares_82 : decode cX4_shares 82 = .ok (.dup2, 1) := by decide +kernel
theorem dX4_shares_83 : decode cX4_shares 83 = .ok (.laload, 1) := by decide +kernel
theorem dX4_shares_84 : decode cX4_shares 84 = .ok (.iload_n 1, 1) := by decide +kernel
theorem dX4_shares_85 : decode cX4_shares 85 = .ok (.ifCond .ne 18, 3) := by decide +kernel
theorem dX4_shares_88 : decode cX4_shares 88 = .ok (.iload_n 3, 1) := by decide +kernel
theorem dX4_shares_89 : decode cX4_shares 89 = .ok (.aload_n 0, 1) := by decide +kernel
theorem dX4_shares_90 : decode cX4_shares 90 = .ok (.getfield 28, 3) := by decide +kernel
theorem dX4_shares_93 : decode cX4_shares 93 = .ok (.iload_n 2, 1) := by decide +kernel
theorem dX4_shares_94 : decode cX4_shares 94 = .ok (.iaload, 1) := by decide +kernel
theorem dX4_shares_95 : decode cX4_shares 95 = .ok (.if_icmp .ne 8, 3) := by decide +kernel
theorem dX4_shares_98 : decode cX4_shares 98 = .ok (.lload 7, 2) := by decide +kernel
theorem dX4_shares_100 : decode cX4_shares 100 = .ok (.goto 4, 3) := by decide +kernel
theorem dX4_shares_103 : decode cX4_shares 103 = .ok (.lconst 0, 1) := by decide +kernel
theorem dX4_shares_104 : decode cX4_shares 104 = .ok (.ladd, 1) := by decide +kernel
theorem dX4_shares_105 : decode cX4_shares 105 = .ok (.lastore, 1) := by decide +kernel
theorem dX4_shares_106 : decode cX4_shares 106 = .ok (.iinc 4 1, 3) := by decide +kernel
theorem dX4_shares_109 : decode cX4_shares 109 = .ok (.goto (-106), 3) := by decide +kernel
theorem dX4_shares_112 : decode cX4_shares 112 = .ok (.return_, 1) := by decide +kernel
set_option maxRecDepth 20000 in
theorem ggX4_guides_X4_loses : GoodIn wsX4_guides wsX4_loses := goodIn_r _ [10, 11, 19, 20, 21, 22, 23, 24, 25, 26, 27, 28, 29, 30, 31, 32, 33, 34, 35, 36, 37, 38, 39, 40, 41, 42, 43] (by decide +kernel) (by decide +kernel)
set_option maxRecDepth 20000 in
theorem gX4_guides_X4_loses : GoodIn wsX4_guides (wsV RX4 106 RX4 yX4_loses wsX4_loses) := goodIn_app (goodIn_of _ (by decide +kernel)) ggX4_guides_X4_loses
set_option maxRecDepth 20000 in
theorem ggX4_guides_X4_gives : GoodIn wsX4_guides wsX4_gives := goodIn_r _ [15, 16, 17, 18, 19, 20, 21, 22, 23, 24, 25, 26, 27, 28, 29, 30, 31, 32, 33, 34, 35, 36, 37, 38, 39, 40, 41, 42, 43] (by decide +kernel) (by decide +kernel)
set_option maxRecDepth 20000 in
theorem gX4_guides_X4_gives : GoodIn wsX4_guides (wsV RX4 102 RX4 yX4_gives wsX4_gives) := goodIn_app (goodIn_of _ (by decide +kernel)) ggX4_guides_X4_gives
theorem dX4_guides_0 : decode cX4_guides 0 = .ok (.lload 4, 2) := by decide +kernel
theorem dX4_guides_2 : decode cX4_guides 2 = .ok (.aload_n 0, 1) := by decide +kernel
theorem dX4_guides_3 : decode cX4_guides 3 = .ok (.getfield 22, 3) := by decide +kernel
theorem dX4_guides_6 : decode cX4_guides 6 = .ok (.iload_n 2, 1) := by decide +kernel
theorem dX4_guides_7 : decode cX4_guides 7 = .ok (.iaload, 1) := by decide +kernel
theorem dX4_guides_8 : decode cX4_guides 8 = .ok (.i2l, 1) := by decide +kernel
theorem dX4_guides_9 : decode cX4_guides 9 = .ok (.lmul, 1) := by decide +kernel
theorem dX4_guides_10 : decode cX4_guides 10 = .ok (.ldc2_w 100, 3) := by decide +kernel
theorem dX4_guides_13 : decode cX4_guides 13 = .ok (.ldiv, 1) := by decide +kernel
theorem dX4_guides_14 : decode cX4_guides 14 = .ok (.lstore 6, 2) := by decide +kernel
theorem dX4_guides_16 : decode cX4_guides 16 = .ok (.aload_n 0, 1) := by decide +kernel
theorem dX4_guides_17 : decode cX4_guides 17 = .ok (.iload_n 1, 1) := by decide +kernel
theorem dX4_guides_18 : decode cX4_guides 18 = .ok (.lload 6, 2) := by decide +kernel
theorem dX4_guides_20 : decode cX4_guides 20 = .ok (.invokevirtual 106, 3) := by decide +kernel
theorem dX4_guides_23 : decode cX4_guides 23 = .ok (.aload_n 0, 1) := by decide +kernel
theorem dX4_guides_24 : decode cX4_guides 24 = .ok (.getfield 62, 3) := by decide +kernel
theorem dX4_guides_27 : decode cX4_guides 27 = .ok (.iload_n 1, 1) := by decide +kernel
theorem dX4_guides_28 : decode cX4_guides 28 = .ok (.iaload, 1) := by decide +kernel
theorem dX4_guides_29 : decode cX4_guides 29 = .ok (.aload_n 0, 1) := by decide +kernel
theorem dX4_guides_30 : decode cX4_guides 30 = .ok (.getfield 19, 3) := by decide +kernel
theorem dX4_guides_33 : decode cX4_guides 33 = .ok (.iload_n 2, 1) := by decide +kernel
theorem dX4_guides_34 : decode cX4_guides 34 = .ok (.iaload, 1) := by decide +kernel
theorem dX4_guides_35 : decode cX4_guides 35 = .ok (.iadd, 1) := by decide +kernel
theorem dX4_guides_36 : decode cX4_guides 36 = .ok (.iconst 1, 1) := by decide +kernel
theorem dX4_guides_37 : decode cX4_guides 37 = .ok (.isub, 1) := by decide +kernel
theorem dX4_guides_38 : decode cX4_guides 38 = .ok (.bipush 8, 2) := by decide +kernel
theorem dX4_guides_40 : decode cX4_guides 40 = .ok (.irem, 1) := by decide +kernel
theorem dX4_guides_41 : decode cX4_guides 41 = .ok (.istore 8, 2) := by decide +kernel
theorem dX4_guides_43 : decode cX4_guides 43 = .ok (.aload_n 0, 1) := by decide +kernel
theorem dX4_guides_44 : decode cX4_guides 44 = .ok (.getfield 53, 3) := by decide +kernel
theorem dX4_guides_47 : decode cX4_guides 47 = .ok (.sipush 1024, 3) := by decide +kernel
theorem dX4_guides_50 : decode cX4_guides 50 = .ok (.iload_n 1, 1) := by decide +kernel
theorem dX4_guides_51 : decode cX4_guides 51 = .ok (.imul, 1) := by decide +kernel
theorem dX4_guides_52 : decode cX4_guides 52 = .ok (.bipush 64, 2) := by decide +kernel
theorem dX4_guides_54 : decode cX4_guides 54 = .ok (.iload_n 2, 1) := by decide +kernel
theorem dX4_guides_55 : decode cX4_guides 55 = .ok (.imul, 1) := by decide +kernel
theorem dX4_guides_56 : decode cX4_guides 56 = .ok (.iadd, 1) := by decide +kernel
theorem dX4_guides_57 : decode cX4_guides 57 = .ok (.bipush 8, 2) := by decide +kernel
theorem dX4_guides_59 : decode cX4_guides 59 = .ok (.iload 8, 2) := by decide +kernel
theorem dX4_guides_61 : decode cX4_guides 61 = .ok (.imul, 1) := by decide +kernel
theorem dX4_guides_62 : decode cX4_guides 62 = .ok (.iadd, 1) := by decide +kernel
theorem dX4_guides_63 : decode cX4_guides 63 = .ok (.iload_n 3, 1) := by decide +kernel
theorem dX4_guides_64 : decode cX4_guides 64 = .ok (.iadd, 1) := by decide +kernel
theorem dX4_guides_65 : decode cX4_guides 65 = .ok (.dup2, 1) := by decide +kernel
theorem dX4_guides_66 : decode cX4_guides 66 = .ok (.laload, 1) := by decide +kernel
theorem dX4_guides_67 : decode cX4_guides 67 = .ok (.lload 4, 2) := by decide +kernel
theorem dX4_guides_69 : decode cX4_guides 69 = .ok (.lload 6, 2) := by decide +kernel
theorem dX4_guides_71 : decode cX4_guides 71 = .ok (.lsub, 1) := by decide +kernel
theorem dX4_guides_72 : decode cX4_guides 72 = .ok (.ladd, 1) := by decide +kernel
theorem dX4_guides_73 : decode cX4_guides 73 = .ok (.lastore, 1) := by decide +kernel
theorem dX4_guides_74 : decode cX4_guides 74 = .ok (.sipush 1024, 3) := by decide +kernel
theorem dX4_guides_77 : decode cX4_guides 77 = .ok (.iload_n 1, 1) := by decide +kernel
theorem dX4_guides_78 : decode cX4_guides 78 = .ok (.imul, 1) := by decide +kernel
theorem dX4_guides_79 : decode cX4_guides 79 = .ok (.bipush 64, 2) := by decide +kernel
theorem dX4_guides_81 : decode cX4_guides 81 = .ok (.iload_n 2, 1) := by decide +kernel
theorem dX4_guides_82 : decode cX4_guides 82 = .ok (.imul, 1) := by decide +kernel
theorem dX4_guides_83 : decode cX4_guides 83 = .ok (.iadd, 1) := by decide +kernel
theorem dX4_guides_84 : decode cX4_guides 84 = .ok (.bipush 8, 2) := by decide +kernel
theorem dX4_guides_86 : decode cX4_guides 86 = .ok (.aload_n 0, 1) := by decide +kernel
theorem dX4_guides_87 : decode cX4_guides 87 = .ok (.getfield 62, 3) := by decide +kernel
theorem dX4_guides_90 : decode cX4_guides 90 = .ok (.iload_n 1, 1) := by decide +kernel
theorem dX4_guides_91 : decode cX4_guides 91 = .ok (.iaload, 1) := by decide +kernel
theorem dX4_guides_92 : decode cX4_guides 92 = .ok (.bipush 8, 2) := by decide +kernel
theorem dX4_guides_94 : decode cX4_guides 94 = .ok (.irem, 1) := by decide +kernel
theorem dX4_guides_95 : decode cX4_guides 95 = .ok (.imul, 1) := by decide +kernel
theorem dX4_guides_96 : decode cX4_guides 96 = .ok (.iadd, 1) := by decide +kernel
theorem dX4_guides_97 : decode cX4_guides 97 = .ok (.iload_n 3, 1) := by decide +kernel
theorem dX4_guides_98 : decode cX4_guides 98 = .ok (.iadd, 1) := by decide +kernel
theorem dX4_guides_99 : decode cX4_guides 99 = .ok (.istore 9, 2) := by decide +kernel
theorem dX4_guides_101 : decode cX4_guides 101 = .ok (.aload_n 0, 1) := by decide +kernel
theorem dX4_guides_102 : decode cX4_guides 102 = .ok (.iload_n 1, 1) := by decide +kernel
theorem dX4_guides_103 : decode cX4_guides 103 = .ok (.iload_n 2, 1) := by decide +kernel
theorem dX4_guides_104 : decode cX4_guides 104 = .ok (.iconst 0, 1) := by decide +kernel
theorem dX4_guides_105 : decode cX4_guides 105 = .ok (.iload_n 3, 1) := by decide +kernel
theorem dX4_guides_106 : decode cX4_guides 106 = .ok (.aload_n 0, 1) := by decide +kernel
theorem dX4_guides_107 : decode cX4_guides 107 = .ok (.getfield 53, 3) := by decide +kernel
theorem dX4_guides_110 : decode cX4_guides 110 = .ok (.iload 9, 2) := by decide +kernel
theorem dX4_guides_112 : decode cX4_guides 112 = .ok (.laload, 1) := by decide +kernel
theorem dX4_guides_113 : decode cX4_guides 113 = .ok (.invokevirtual 102, 3) := by decide +kernel
theorem dX4_guides_116 : decode cX4_guides 116 = .ok (.aload_n 0, 1) := by decide +kernel
theorem dX4_guides_117 : decode cX4_guides 117 = .ok (.getfield 53, 3) := by decide +kernel
theorem dX4_guides_120 : decode cX4_guides 120 = .ok (.iload 9, 2) := by decide +kernel
theorem dX4_guides_122 : decode cX4_guides 122 = .ok (.lconst 0, 1) := by decide +kernel
theorem dX4_guides_123 : decode cX4_guides 123 = .ok (.lastore, 1) := by decide +kernel
theorem dX4_guides_124 : decode cX4_guides 124 = .ok (.return_, 1) := by decide +kernel
set_option maxRecDepth 20000 in
theorem ggX4_works_X4_gives : GoodIn wsX4_works wsX4_gives := goodIn_r _ [12, 13, 14, 15, 43, 44, 45, 46, 47, 48, 49, 50, 51, 52, 53, 54, 55, 56, 57, 58, 59, 60, 61, 62, 63, 64, 65, 66, 67] (by decide +kernel) (by decide +kernel)
set_option maxRecDepth 20000 in
theorem gX4_works_X4_gives : GoodIn wsX4_works (wsV RX4 102 RX4 yX4_gives wsX4_gives) := goodIn_app (goodIn_of _ (by decide +kernel)) ggX4_works_X4_gives
set_option maxRecDepth 20000 in
theorem ggX4_works_X4_guides : GoodIn wsX4_works wsX4_guides := goodIn_r _ [19, 4, 20, 7, 3, 21, 22, 23, 24, 11, 25, 26, 8, 9, 10, 12, 13, 14, 15, 43, 44, 45, 46, 47, 48, 49, 50, 51, 52, 53, 54, 55, 56, 57, 58, 59, 60, 61, 62, 63, 64, 65, 66, 67] (by decide +kernel) (by decide +kernel)
set_option maxRecDepth 20000 in
theorem gX4_works_X4_guides : GoodIn wsX4_works (wsV RX4 113 RX4 yX4_guides wsX4_guides) := goodIn_app (goodIn_of _ (by decide +kernel)) ggX4_works_X4_guides
set_option maxRecDepth 20000 in
theorem ggX4_works_X4_shares : GoodIn wsX4_works wsX4_shares := goodIn_r _ [30, 1, 20, 31, 32, 33, 34, 35, 11, 36, 2, 4, 37, 38, 39, 40, 3, 41, 42, 8, 9, 10, 12, 13, 14, 15, 43, 44, 45, 46, 47, 48, 49, 50, 51, 52, 53, 54, 55, 56, 57, 58, 59, 60, 61, 62, 63, 64, 65, 66, 67] (by decide +kernel) (by decide +kernel)
set_option maxRecDepth 20000 in
theorem gX4_works_X4_shares : GoodIn wsX4_works (wsV RX4 117 RX4 yX4_shares wsX4_shares) := goodIn_app (goodIn_of _ (by decide +kernel)) ggX4_works_X4_shares
set_option maxRecDepth 20000 in
theorem ggX4_works_X4_loses : GoodIn wsX4_works wsX4_loses := goodIn_r _ [25, 26, 43, 44, 45, 46, 47, 48, 49, 50, 51, 52, 53, 54, 55, 56, 57, 58, 59, 60, 61, 62, 63, 64, 65, 66, 67] (by decide +kernel) (by decide +kernel)
set_option maxRecDepth 20000 in
theorem gX4_works_X4_loses : GoodIn wsX4_works (wsV RX4 106 RX4 yX4_loses wsX4_loses) := goodIn_app (goodIn_of _ (by decide +kernel)) ggX4_works_X4_loses
theorem dX4_works_0 : decode cX4_works 0 = .ok (.aload_n 0, 1) := by decide +kernel
theorem dX4_works_1 : decode cX4_works 1 = .ok (.getfield 47, 3) := by decide +kernel
theorem dX4_works_4 : decode cX4_works 4 = .ok (.sipush 256, 3) := by decide +kernel
theorem dX4_works_7 : decode cX4_works 7 = .ok (.iload_n 1, 1) := by decide +kernel
theorem dX4_works_8 : decode cX4_works 8 = .ok (.imul, 1) := by decide +kernel
theorem dX4_works_9 : decode cX4_works 9 = .ok (.bipush 16, 2) := by decide +kernel
theorem dX4_works_11 : decode cX4_works 11 = .ok (.iload_n 2, 1) := by decide +kernel
theorem dX4_works_12 : decode cX4_works 12 = .ok (.imul, 1) := by decide +kernel
theorem dX4_works_13 : decode cX4_works 13 = .ok (.iadd, 1) := by decide +kernel
theorem dX4_works_14 : decode cX4_works 14 = .ok (.iload_n 3, 1) := by decide +kernel
theorem dX4_works_15 : decode cX4_works 15 = .ok (.iadd, 1) := by decide +kernel
theorem dX4_works_16 : decode cX4_works 16 = .ok (.laload, 1) := by decide +kernel
theorem dX4_works_17 : decode cX4_works 17 = .ok (.lstore 4, 2) := by decide +kernel
theorem dX4_works_19 : decode cX4_works 19 = .ok (.aload_n 0, 1) := by decide +kernel
theorem dX4_works_20 : decode cX4_works 20 = .ok (.getfield 7, 3) := by decide +kernel
theorem dX4_works_23 : decode cX4_works 23 = .ok (.iload_n 2, 1) := by decide +kernel
theorem dX4_works_24 : decode cX4_works 24 = .ok (.iaload, 1) := by decide +kernel
theorem dX4_works_25 : decode cX4_works 25 = .ok (.istore 6, 2) := by decide +kernel
theorem dX4_works_27 : decode cX4_works 27 = .ok (.iload 6, 2) := by decide +kernel
theorem dX4_works_29 : decode cX4_works 29 = .ok (.ifCond .ne 58, 3) := by decide +kernel
theorem dX4_works_32 : decode cX4_works 32 = .ok (.iload_n 3, 1) := by decide +kernel
theorem dX4_works_33 : decode cX4_works 33 = .ok (.aload_n 0, 1) := by decide +kernel
theorem dX4_works_34 : decode cX4_works 34 = .ok (.getfield 19, 3) := by decide +kernel
theorem dX4_works_37 : decode cX4_works 37 = .ok (.iload_n 2, 1) := by decide +kernel
theorem dX4_works_38 : decode cX4_works 38 = .ok (.iaload, 1) := by decide +kernel
theorem dX4_works_39 : decode cX4_works 39 = .ok (.if_icmp .ne 13, 3) := by decide +kernel
theorem dX4_works_42 : decode cX4_works 42 = .ok (.aload_n 0, 1) := by decide +kernel
theorem dX4_works_43 : decode cX4_works 43 = .ok (.getfield 22, 3) := by decide +kernel
theorem dX4_works_46 : decode cX4_works 46 = .ok (.iload_n 2, 1) := by decide +kernel
theorem dX4_works_47 : decode cX4_works 47 = .ok (.iaload, 1) := by decide +kernel
theorem dX4_works_48 : decode cX4_works 48 = .ok (.i2l, 1) := by decide +kernel
theorem dX4_works_49 : decode cX4_works 49 = .ok (.goto 4, 3) := by decide +kernel
theorem dX4_works_52 : decode cX4_works 52 = .ok (.lconst 0, 1) := by decide +kernel
theorem dX4_works_53 : decode cX4_works 53 = .ok (.lstore 7, 2) := by decide +kernel
theorem dX4_works_55 : decode cX4_works 55 = .ok (.aload_n 0, 1) := by decide +kernel
theorem dX4_works_56 : decode cX4_works 56 = .ok (.dup, 1) := by decide +kernel
theorem dX4_works_57 : decode cX4_works 57 = .ok (.getfield 110, 3) := by decide +kernel
theorem dX4_works_60 : decode cX4_works 60 = .ok (.iload_n 1, 1) := by decide +kernel
theorem dX4_works_61 : decode cX4_works 61 = .ok (.ifCond .ne 8, 3) := by decide +kernel
theorem dX4_works_64 : decode cX4_works 64 = .ok (.lload 7, 2) := by decide +kernel
theorem dX4_works_66 : decode cX4_works 66 = .ok (.goto 4, 3) := by decide +kernel
theorem dX4_works_69 : decode cX4_works 69 = .ok (.lconst 0, 1) := by decide +kernel
theorem dX4_works_70 : decode cX4_works 70 = .ok (.ladd, 1) := by decide +kernel
theorem dX4_works_71 : decode cX4_works 71 = .ok (.putfield 110, 3) := by decide +kernel
theorem dX4_works_74 : decode cX4_works 74 = .ok (.aload_n 0, 1) := by decide +kernel
theorem dX4_works_75 : decode cX4_works 75 = .ok (.iload_n 1, 1) := by decide +kernel
theorem dX4_works_76 : decode cX4_works 76 = .ok (.iload_n 2, 1) := by decide +kernel
theorem dX4_works_77 : decode cX4_works 77 = .ok (.iconst 0, 1) := by decide +kernel
theorem dX4_works_78 : decode cX4_works 78 = .ok (.iload_n 3, 1) := by decide +kernel
theorem dX4_works_79 : decode cX4_works 79 = .ok (.lload 7, 2) := by decide +kernel
theorem dX4_works_81 : decode cX4_works 81 = .ok (.invokevirtual 102, 3) := by decide +kernel
theorem dX4_works_84 : decode cX4_works 84 = .ok (.goto 116, 3) := by decide +kernel
theorem dX4_works_87 : decode cX4_works 87 = .ok (.iload 6, 2) := by decide +kernel
theorem dX4_works_89 : decode cX4_works 89 = .ok (.iconst 1, 1) := by decide +kernel
theorem dX4_works_90 : decode cX4_works 90 = .ok (.if_icmp .ne 15, 3) := by decide +kernel
theorem dX4_works_93 : decode cX4_works 93 = .ok (.aload_n 0, 1) := by decide +kernel
theorem dX4_works_94 : decode cX4_works 94 = .ok (.iload_n 1, 1) := by decide +kernel
theorem dX4_works_95 : decode cX4_works 95 = .ok (.iload_n 2, 1) := by decide +kernel
theorem dX4_works_96 : decode cX4_works 96 = .ok (.iload_n 3, 1) := by decide +kernel
theorem dX4_works_97 : decode cX4_works 97 = .ok (.lload 4, 2) := by decide +kernel
theorem dX4_works_99 : decode cX4_works 99 = .ok (.invokevirtual 113, 3) := by decide +kernel
theorem dX4_works_102 : decode cX4_works 102 = .ok (.goto 98, 3) := by decide +kernel
theorem dX4_works_105 : decode cX4_works 105 = .ok (.iload 6, 2) := by decide +kernel
theorem dX4_works_107 : decode cX4_works 107 = .ok (.iconst 2, 1) := by decide +kernel
theorem dX4_works_108 : decode cX4_works 108 = .ok (.if_icmp .eq 9, 3) := by decide +kernel
theorem dX4_works_111 : decode cX4_works 111 = .ok (.iload 6, 2) := by decide +kernel
theorem dX4_works_113 : decode cX4_works 113 = .ok (.iconst 3, 1) := by decide +kernel
theorem dX4_works_114 : decode cX4_works 114 = .ok (.if_icmp .ne 13, 3) := by decide +kernel
theorem dX4_works_117 : decode cX4_works 117 = .ok (.aload_n 0, 1) := by decide +kernel
theorem dX4_works_118 : decode cX4_works 118 = .ok (.iload_n 1, 1) := by decide +kernel
theorem dX4_works_119 : decode cX4_works 119 = .ok (.iload_n 2, 1) := by decide +kernel
theorem dX4_works_120 : decode cX4_works 120 = .ok (.iload_n 3, 1) := by decide +kernel
theorem dX4_works_121 : decode cX4_works 121 = .ok (.invokevirtual 117, 3) := by decide +kernel
theorem dX4_works_124 : decode cX4_works 124 = .ok (.goto 76, 3) := by decide +kernel
theorem dX4_works_127 : decode cX4_works 127 = .ok (.iload 6, 2) := by decide +kernel
theorem dX4_works_129 : decode cX4_works 129 = .ok (.iconst 5, 1) := by decide +kernel
theorem dX4_works_130 : decode cX4_works 130 = .ok (.if_icmp .ne 28, 3) := by decide +kernel
theorem dX4_works_133 : decode cX4_works 133 = .ok (.aload_n 0, 1) := by decide +kernel
theorem dX4_works_134 : decode cX4_works 134 = .ok (.getfield 56, 3) := by decide +kernel
theorem dX4_works_137 : decode cX4_works 137 = .ok (.sipush 128, 3) := by decide +kernel
theorem dX4_works_140 : decode cX4_works 140 = .ok (.iload_n 1, 1) := by decide +kernel
theorem dX4_works_141 : decode cX4_works 141 = .ok (.imul, 1) := by decide +kernel
theorem dX4_works_142 : decode cX4_works 142 = .ok (.bipush 8, 2) := by decide +kernel
theorem dX4_works_144 : decode cX4_works 144 = .ok (.iload_n 2, 1) := by decide +kernel
theorem dX4_works_145 : decode cX4_works 145 = .ok (.imul, 1) := by decide +kernel
theorem dX4_works_146 : decode cX4_works 146 = .ok (.iadd, 1) := by decide +kernel
theorem dX4_works_147 : decode cX4_works 147 = .ok (.iload_n 3, 1) := by decide +kernel
theorem dX4_works_148 : decode cX4_works 148 = .ok (.iadd, 1) := by decide +kernel
theorem dX4_works_149 : decode cX4_works 149 = .ok (.dup2, 1) := by decide +kernel
theorem dX4_works_150 : decode cX4_works 150 = .ok (.laload, 1) := by decide +kernel
theorem dX4_works_151 : decode cX4_works 151 = .ok (.lload 4, 2) := by decide +kernel
theorem dX4_works_153 : decode cX4_works 153 = .ok (.ladd, 1) := by decide +kernel
theorem dX4_works_154 : decode cX4_works 154 = .ok (.lastore, 1) := by decide +kernel
theorem dX4_works_155 : decode cX4_works 155 = .ok (.goto 45, 3) := by decide +kernel
theorem dX4_works_158 : decode cX4_works 158 = .ok (.aload_n 0, 1) := by decide +kernel
theorem dX4_works_159 : decode cX4_works 159 = .ok (.getfield 22, 3) := by decide +kernel
theorem dX4_works_162 : decode cX4_works 162 = .ok (.iload_n 2, 1) := by decide +kernel
theorem dX4_works_163 : decode cX4_works 163 = .ok (.iaload, 1) := by decide +kernel
theorem dX4_works_164 : decode cX4_works 164 = .ok (.aload_n 0, 1) := by decide +kernel
theorem dX4_works_165 : decode cX4_works 165 = .ok (.getfield 62, 3) := by decide +kernel
theorem dX4_works_168 : decode cX4_works 168 = .ok (.iload_n 1, 1) := by decide +kernel
theorem dX4_works_169 : decode cX4_works 169 = .ok (.iaload, 1) := by decide +kernel
theorem dX4_works_170 : decode cX4_works 170 = .ok (.bipush 8, 2) := by decide +kernel
theorem dX4_works_172 : decode cX4_works 172 = .ok (.irem, 1) := by decide +kernel
theorem dX4_works_173 : decode cX4_works 173 = .ok (.ishr, 1) := by decide +kernel
theorem dX4_works_174 : decode cX4_works 174 = .ok (.iconst 1, 1) := by decide +kernel
theorem dX4_works_175 : decode cX4_works 175 = .ok (.iand, 1) := by decide +kernel
theorem dX4_works_176 : decode cX4_works 176 = .ok (.iconst 1, 1) := by decide +kernel
theorem dX4_works_177 : decode cX4_works 177 = .ok (.if_icmp .ne 16, 3) := by decide +kernel
theorem dX4_works_180 : decode cX4_works 180 = .ok (.aload_n 0, 1) := by decide +kernel
theorem dX4_works_181 : decode cX4_works 181 = .ok (.iload_n 1, 1) := by decide +kernel
theorem dX4_works_182 : decode cX4_works 182 = .ok (.iload_n 2, 1) := by decide +kernel
theorem dX4_works_183 : decode cX4_works 183 = .ok (.iconst 0, 1) := by decide +kernel
theorem dX4_works_184 : decode cX4_works 184 = .ok (.iload_n 3, 1) := by decide +kernel
theorem dX4_works_185 : decode cX4_works 185 = .ok (.lload 4, 2) := by decide +kernel
theorem dX4_works_187 : decode cX4_works 187 = .ok (.invokevirtual 102, 3) := by decide +kernel
theorem dX4_works_190 : decode cX4_works 190 = .ok (.goto 10, 3) := by decide +kernel
theorem dX4_works_193 : decode cX4_works 193 = .ok (.aload_n 0, 1) := by decide +kernel
theorem dX4_works_194 : decode cX4_works 194 = .ok (.iload_n 1, 1) := by decide +kernel
theorem dX4_works_195 : decode cX4_works 195 = .ok (.lload 4, 2) := by decide +kernel
theorem dX4_works_197 : decode cX4_works 197 = .ok (.invokevirtual 106, 3) := by decide +kernel
theorem dX4_works_200 : decode cX4_works 200 = .ok (.return_, 1) := by decide +kernel
set_option maxRecDepth 20000 in
theorem ggX4_goes_X4_works : GoodIn wsX4_goes wsX4_works := goodIn_r _ [10, 4, 11, 12, 13, 14, 15, 5, 16, 17, 18, 9, 19, 20, 1, 21, 22, 23, 24, 25, 26, 27, 28, 29, 30, 31, 32, 33, 34, 35, 36, 3, 37, 38, 39, 40, 41, 42, 43, 44, 45, 46, 47, 48, 49, 50, 51, 52, 53, 54, 55, 56, 57, 58, 59, 60, 61, 62, 63, 64, 65, 66, 67, 68, 69, 70, 71, 72] (by decide +kernel) (by decide +kernel)
set_option maxRecDepth 20000 in
theorem gX4_goes_X4_works : GoodIn wsX4_goes (wsV RX4 121 RX4 yX4_works wsX4_works) := goodIn_app (goodIn_of _ (by decide +kernel)) ggX4_goes_X4_works
theorem dX4_goes_0 : decode cX4_goes 0 = .ok (.iconst 0, 1) := by decide +kernel
theorem dX4_goes_1 : decode cX4_goes 1 = .ok (.istore_n 2, 1) := by decide +kernel
theorem dX4_goes_2 : decode cX4_goes 2 = .ok (.iload_n 2, 1) := by decide +kernel
theorem dX4_goes_3 : decode cX4_goes 3 = .ok (.sipush 256, 3) := by decide +kernel
theorem dX4_goes_6 : decode cX4_goes 6 = .ok (.if_icmp .ge 16, 3) := by decide +kernel
theorem dX4_goes_9 : decode cX4_goes 9 = .ok (.aload_n 0, 1) := by decide +kernel
theorem dX4_goes_10 : decode cX4_goes 10 = .ok (.getfield 50, 3) := by decide +kernel
theorem dX4_goes_13 : decode cX4_goes 13 = .ok (.iload_n 2, 1) := by decide +kernel
theorem dX4_goes_14 : decode cX4_goes 14 = .ok (.lconst 0, 1) := by decide +kernel
theorem dX4_goes_15 : decode cX4_goes 15 = .ok (.lastore, 1) := by decide +kernel
theorem dX4_goes_16 : decode cX4_goes 16 = .ok (.iinc 2 1, 3) := by decide +kernel
theorem dX4_goes_19 : decode cX4_goes 19 = .ok (.goto (-17), 3) := by decide +kernel
theorem dX4_goes_22 : decode cX4_goes 22 = .ok (.iconst 0, 1) := by decide +kernel
theorem dX4_goes_23 : decode cX4_goes 23 = .ok (.istore_n 2, 1) := by decide +kernel
theorem dX4_goes_24 : decode cX4_goes 24 = .ok (.iload_n 2, 1) := by decide +kernel
theorem dX4_goes_25 : decode cX4_goes 25 = .ok (.aload_n 0, 1) := by decide +kernel
theorem dX4_goes_26 : decode cX4_goes 26 = .ok (.getfield 75, 3) := by decide +kernel
theorem dX4_goes_29 : decode cX4_goes 29 = .ok (.if_icmp .ge 50, 3) := by decide +kernel
theorem dX4_goes_32 : decode cX4_goes 32 = .ok (.aload_n 0, 1) := by decide +kernel
theorem dX4_goes_33 : decode cX4_goes 33 = .ok (.getfield 44, 3) := by decide +kernel
theorem dX4_goes_36 : decode cX4_goes 36 = .ok (.iload_n 2, 1) := by decide +kernel
theorem dX4_goes_37 : decode cX4_goes 37 = .ok (.iload_n 1, 1) := by decide +kernel
theorem dX4_goes_38 : decode cX4_goes 38 = .ok (.ifCond .ne 7, 3) := by decide +kernel
theorem dX4_goes_41 : decode cX4_goes 41 = .ok (.lconst 0, 1) := by decide +kernel
theorem dX4_goes_42 : decode cX4_goes 42 = .ok (.goto 9, 3) := by decide +kernel
theorem dX4_goes_45 : decode cX4_goes 45 = .ok (.aload_n 0, 1) := by decide +kernel
theorem dX4_goes_46 : decode cX4_goes 46 = .ok (.getfield 44, 3) := by decide +kernel
theorem dX4_goes_49 : decode cX4_goes 49 = .ok (.iload_n 2, 1) := by decide +kernel
theorem dX4_goes_50 : decode cX4_goes 50 = .ok (.laload, 1) := by decide +kernel
theorem dX4_goes_51 : decode cX4_goes 51 = .ok (.lastore, 1) := by decide +kernel
theorem dX4_goes_52 : decode cX4_goes 52 = .ok (.iconst 0, 1) := by decide +kernel
theorem dX4_goes_53 : decode cX4_goes 53 = .ok (.istore_n 3, 1) := by decide +kernel
theorem dX4_goes_54 : decode cX4_goes 54 = .ok (.iload_n 3, 1) := by decide +kernel
theorem dX4_goes_55 : decode cX4_goes 55 = .ok (.bipush 8, 2) := by decide +kernel
theorem dX4_goes_57 : decode cX4_goes 57 = .ok (.if_icmp .ge 16, 3) := by decide +kernel
theorem dX4_goes_60 : decode cX4_goes 60 = .ok (.aload_n 0, 1) := by decide +kernel
theorem dX4_goes_61 : decode cX4_goes 61 = .ok (.iload_n 1, 1) := by decide +kernel
theorem dX4_goes_62 : decode cX4_goes 62 = .ok (.iload_n 2, 1) := by decide +kernel
theorem dX4_goes_63 : decode cX4_goes 63 = .ok (.iload_n 3, 1) := by decide +kernel
theorem dX4_goes_64 : decode cX4_goes 64 = .ok (.invokevirtual 121, 3) := by decide +kernel
theorem dX4_goes_67 : decode cX4_goes 67 = .ok (.iinc 3 1, 3) := by decide +kernel
theorem dX4_goes_70 : decode cX4_goes 70 = .ok (.goto (-16), 3) := by decide +kernel
theorem dX4_goes_73 : decode cX4_goes 73 = .ok (.iinc 2 1, 3) := by decide +kernel
theorem dX4_goes_76 : decode cX4_goes 76 = .ok (.goto (-52), 3) := by decide +kernel
theorem dX4_goes_79 : decode cX4_goes 79 = .ok (.iconst 0, 1) := by decide +kernel
theorem dX4_goes_80 : decode cX4_goes 80 = .ok (.istore_n 2, 1) := by decide +kernel
theorem dX4_goes_81 : decode cX4_goes 81 = .ok (.iload_n 2, 1) := by decide +kernel
theorem dX4_goes_82 : decode cX4_goes 82 = .ok (.sipush 256, 3) := by decide +kernel
theorem dX4_goes_85 : decode cX4_goes 85 = .ok (.if_icmp .ge 27, 3) := by decide +kernel
theorem dX4_goes_88 : decode cX4_goes 88 = .ok (.aload_n 0, 1) := by decide +kernel
theorem dX4_goes_89 : decode cX4_goes 89 = .ok (.getfield 47, 3) := by decide +kernel
theorem dX4_goes_92 : decode cX4_goes 92 = .ok (.sipush 256, 3) := by decide +kernel
theorem dX4_goes_95 : decode cX4_goes 95 = .ok (.iload_n 1, 1) := by decide +kernel
theorem dX4_goes_96 : decode cX4_goes 96 = .ok (.imul, 1) := by decide +kernel
theorem dX4_goes_97 : decode cX4_goes 97 = .ok (.iload_n 2, 1) := by decide +kernel
theorem dX4_goes_98 : decode cX4_goes 98 = .ok (.iadd, 1) := by decide +kernel
theorem dX4_goes_99 : decode cX4_goes 99 = .ok (.aload_n 0, 1) := by decide +kernel
theorem dX4_goes_100 : decode cX4_goes 100 = .ok (.getfield 50, 3) := by decide +kernel
theorem dX4_goes_103 : decode cX4_goes 103 = .ok (.iload_n 2, 1) := by decide +kernel
theorem dX4_goes_104 : decode cX4_goes 104 = .ok (.laload, 1) := by decide +kernel
theorem dX4_goes_105 : decode cX4_goes 105 = .ok (.lastore, 1) := by decide +kernel
theorem dX4_goes_106 : decode cX4_goes 106 = .ok (.iinc 2 1, 3) := by decide +kernel
theorem dX4_goes_109 : decode cX4_goes 109 = .ok (.goto (-28), 3) := by decide +kernel
theorem dX4_goes_112 : decode cX4_goes 112 = .ok (.aload_n 0, 1) := by decide +kernel
theorem dX4_goes_113 : decode cX4_goes 113 = .ok (.getfield 62, 3) := by decide +kernel
theorem dX4_goes_116 : decode cX4_goes 116 = .ok (.iload_n 1, 1) := by decide +kernel
theorem dX4_goes_117 : decode cX4_goes 117 = .ok (.dup2, 1) := by decide +kernel
theorem dX4_goes_118 : decode cX4_goes 118 = .ok (.iaload, 1) := by decide +kernel
theorem dX4_goes_119 : decode cX4_goes 119 = .ok (.iconst 1, 1) := by decide +kernel
theorem dX4_goes_120 : decode cX4_goes 120 = .ok (.iadd, 1) := by decide +kernel
theorem dX4_goes_121 : decode cX4_goes 121 = .ok (.iastore, 1) := by decide +kernel
theorem dX4_goes_122 : decode cX4_goes 122 = .ok (.return_, 1) := by decide +kernel
set_option maxRecDepth 20000 in
theorem ggX4_warms_X4_target : GoodIn wsX4_warms wsX4_target := goodIn_r _ [6, 7, 8, 9, 10, 11, 12, 5, 13, 14, 15, 16, 17, 18, 19, 20, 21, 22, 23, 24, 25, 26, 27, 28, 29, 30, 31, 32, 33, 34, 35, 36, 37, 38, 39, 40] (by decide +kernel) (by decide +kernel)
set_option maxRecDepth 20000 in
theorem gX4_warms_X4_target : GoodIn wsX4_warms (wsV RX4 124 RX4 yX4_target wsX4_target) := goodIn_app (goodIn_of _ (by decide +kernel)) ggX4_warms_X4_target
theorem dX4_warms_0 : decode cX4_warms 0 = .ok (.aload_n 0, 1) := by decide +kernel
theorem dX4_warms_1 : decode cX4_warms 1 = .ok (.iload_n 1, 1) := by decide +kernel
theorem dX4_warms_2 : decode cX4_warms 2 = .ok (.invokevirtual 124, 3) := by decide +kernel
theorem dX4_warms_5 : decode cX4_warms 5 = .ok (.aload_n 0, 1) := by decide +kernel
theorem dX4_warms_6 : decode cX4_warms 6 = .ok (.getfield 59, 3) := by decide +kernel
theorem dX4_warms_9 : decode cX4_warms 9 = .ok (.iload_n 1, 1) := by decide +kernel
theorem dX4_warms_10 : decode cX4_warms 10 = .ok (.iaload, 1) := by decide +kernel
theorem dX4_warms_11 : decode cX4_warms 11 = .ok (.isub, 1) := by decide +kernel
theorem dX4_warms_12 : decode cX4_warms 12 = .ok (.istore_n 2, 1) := by decide +kernel
theorem dX4_warms_13 : decode cX4_warms 13 = .ok (.iload_n 2, 1) := by decide +kernel
theorem dX4_warms_14 : decode cX4_warms 14 = .ok (.iconst 4, 1) := by decide +kernel
theorem dX4_warms_15 : decode cX4_warms 15 = .ok (.idiv, 1) := by decide +kernel
theorem dX4_warms_16 : decode cX4_warms 16 = .ok (.istore_n 3, 1) := by decide +kernel
theorem dX4_warms_17 : decode cX4_warms 17 = .ok (.aload_n 0, 1) := by decide +kernel
theorem dX4_warms_18 : decode cX4_warms 18 = .ok (.getfield 59, 3) := by decide +kernel
theorem dX4_warms_21 : decode cX4_warms 21 = .ok (.iload_n 1, 1) := by decide +kernel
theorem dX4_warms_22 : decode cX4_warms 22 = .ok (.dup2, 1) := by decide +kernel
theorem dX4_warms_23 : decode cX4_warms 23 = .ok (.iaload, 1) := by decide +kernel
theorem dX4_warms_24 : decode cX4_warms 24 = .ok (.iload_n 2, 1) := by decide +kernel
theorem dX4_warms_25 : decode cX4_warms 25 = .ok (.ifCond .eq 7, 3) := by decide +kernel
theorem dX4_warms_28 : decode cX4_warms 28 = .ok (.iload_n 3, 1) := by decide +kernel
theorem dX4_warms_29 : decode cX4_warms 29 = .ok (.ifCond .eq 7, 3) := by decide +kernel
theorem dX4_warms_32 : decode cX4_warms 32 = .ok (.iload_n 3, 1) := by decide +kernel
theorem dX4_warms_33 : decode cX4_warms 33 = .ok (.goto 12, 3) := by decide +kernel
theorem dX4_warms_36 : decode cX4_warms 36 = .ok (.iload_n 2, 1) := by decide +kernel
theorem dX4_warms_37 : decode cX4_warms 37 = .ok (.ifCond .le 7, 3) := by decide +kernel
theorem dX4_warms_40 : decode cX4_warms 40 = .ok (.iconst 1, 1) := by decide +kernel
theorem dX4_warms_41 : decode cX4_warms 41 = .ok (.goto 4, 3) := by decide +kernel
theorem dX4_warms_44 : decode cX4_warms 44 = .ok (.iconst (-1), 1) := by decide +kernel
theorem dX4_warms_45 : decode cX4_warms 45 = .ok (.iadd, 1) := by decide +kernel
theorem dX4_warms_46 : decode cX4_warms 46 = .ok (.iastore, 1) := by decide +kernel
theorem dX4_warms_47 : decode cX4_warms 47 = .ok (.return_, 1) := by decide +kernel
theorem dX4_hunts_0 : decode cX4_hunts 0 = .ok (.aload_n 0, 1) := by decide +kernel
theorem dX4_hunts_1 : decode cX4_hunts 1 = .ok (.getfield 31, 3) := by decide +kernel
theorem dX4_hunts_4 : decode cX4_hunts 4 = .ok (.iload_n 1, 1) := by decide +kernel
theorem dX4_hunts_5 : decode cX4_hunts 5 = .ok (.aload_n 0, 1) := by decide +kernel
theorem dX4_hunts_6 : decode cX4_hunts 6 = .ok (.getfield 44, 3) := by decide +kernel
theorem dX4_hunts_9 : decode cX4_hunts 9 = .ok (.iload_n 1, 1) := by decide +kernel
theorem dX4_hunts_10 : decode cX4_hunts 10 = .ok (.laload, 1) := by decide +kernel
theorem dX4_hunts_11 : decode cX4_hunts 11 = .ok (.aload_n 0, 1) := by decide +kernel
theorem dX4_hunts_12 : decode cX4_hunts 12 = .ok (.getfield 34, 3) := by decide +kernel
theorem dX4_hunts_15 : decode cX4_hunts 15 = .ok (.iload_n 1, 1) := by decide +kernel
theorem dX4_hunts_16 : decode cX4_hunts 16 = .ok (.laload, 1) := by decide +kernel
theorem dX4_hunts_17 : decode cX4_hunts 17 = .ok (.lcmp, 1) := by decide +kernel
theorem dX4_hunts_18 : decode cX4_hunts 18 = .ok (.ifCond .ge 13, 3) := by decide +kernel
theorem dX4_hunts_21 : decode cX4_hunts 21 = .ok (.aload_n 0, 1) := by decide +kernel
theorem dX4_hunts_22 : decode cX4_hunts 22 = .ok (.getfield 31, 3) := by decide +kernel
theorem dX4_hunts_25 : decode cX4_hunts 25 = .ok (.iload_n 1, 1) := by decide +kernel
theorem dX4_hunts_26 : decode cX4_hunts 26 = .ok (.iaload, 1) := by decide +kernel
theorem dX4_hunts_27 : decode cX4_hunts 27 = .ok (.ineg, 1) := by decide +kernel
theorem dX4_hunts_28 : decode cX4_hunts 28 = .ok (.goto 9, 3) := by decide +kernel
theorem dX4_hunts_31 : decode cX4_hunts 31 = .ok (.aload_n 0, 1) := by decide +kernel
theorem dX4_hunts_32 : decode cX4_hunts 32 = .ok (.getfield 31, 3) := by decide +kernel
theorem dX4_hunts_35 : decode cX4_hunts 35 = .ok (.iload_n 1, 1) := by decide +kernel
theorem dX4_hunts_36 : decode cX4_hunts 36 = .ok (.iaload, 1) := by decide +kernel
theorem dX4_hunts_37 : decode cX4_hunts 37 = .ok (.iastore, 1) := by decide +kernel
theorem dX4_hunts_38 : decode cX4_hunts 38 = .ok (.aload_n 0, 1) := by decide +kernel
theorem dX4_hunts_39 : decode cX4_hunts 39 = .ok (.getfield 22, 3) := by decide +kernel
theorem dX4_hunts_42 : decode cX4_hunts 42 = .ok (.iload_n 1, 1) := by decide +kernel
theorem dX4_hunts_43 : decode cX4_hunts 43 = .ok (.iaload, 1) := by decide +kernel
theorem dX4_hunts_44 : decode cX4_hunts 44 = .ok (.aload_n 0, 1) := by decide +kernel
theorem dX4_hunts_45 : decode cX4_hunts 45 = .ok (.getfield 31, 3) := by decide +kernel
theorem dX4_hunts_48 : decode cX4_hunts 48 = .ok (.iload_n 1, 1) := by decide +kernel
theorem dX4_hunts_49 : decode cX4_hunts 49 = .ok (.iaload, 1) := by decide +kernel
theorem dX4_hunts_50 : decode cX4_hunts 50 = .ok (.iadd, 1) := by decide +kernel
theorem dX4_hunts_51 : decode cX4_hunts 51 = .ok (.istore_n 2, 1) := by decide +kernel
theorem dX4_hunts_52 : decode cX4_hunts 52 = .ok (.aload_n 0, 1) := by decide +kernel
theorem dX4_hunts_53 : decode cX4_hunts 53 = .ok (.getfield 22, 3) := by decide +kernel
theorem dX4_hunts_56 : decode cX4_hunts 56 = .ok (.iload_n 1, 1) := by decide +kernel
theorem dX4_hunts_57 : decode cX4_hunts 57 = .ok (.iload_n 2, 1) := by decide +kernel
theorem dX4_hunts_58 : decode cX4_hunts 58 = .ok (.ifCond .ge 7, 3) := by decide +kernel
theorem dX4_hunts_61 : decode cX4_hunts 61 = .ok (.iconst 0, 1) := by decide +kernel
theorem dX4_hunts_62 : decode cX4_hunts 62 = .ok (.goto 15, 3) := by decide +kernel
theorem dX4_hunts_65 : decode cX4_hunts 65 = .ok (.iload_n 2, 1) := by decide +kernel
theorem dX4_hunts_66 : decode cX4_hunts 66 = .ok (.bipush 99, 2) := by decide +kernel
theorem dX4_hunts_68 : decode cX4_hunts 68 = .ok (.if_icmp .le 8, 3) := by decide +kernel
theorem dX4_hunts_71 : decode cX4_hunts 71 = .ok (.bipush 99, 2) := by decide +kernel
theorem dX4_hunts_73 : decode cX4_hunts 73 = .ok (.goto 4, 3) := by decide +kernel
theorem dX4_hunts_76 : decode cX4_hunts 76 = .ok (.iload_n 2, 1) := by decide +kernel
theorem dX4_hunts_77 : decode cX4_hunts 77 = .ok (.iastore, 1) := by decide +kernel
theorem dX4_hunts_78 : decode cX4_hunts 78 = .ok (.aload_n 0, 1) := by decide +kernel
theorem dX4_hunts_79 : decode cX4_hunts 79 = .ok (.getfield 34, 3) := by decide +kernel
theorem dX4_hunts_82 : decode cX4_hunts 82 = .ok (.iload_n 1, 1) := by decide +kernel
theorem dX4_hunts_83 : decode cX4_hunts 83 = .ok (.aload_n 0, 1) := by decide +kernel
theorem dX4_hunts_84 : decode cX4_hunts 84 = .ok (.getfield 44, 3) := by decide +kernel
theorem dX4_hunts_87 : decode cX4_hunts 87 = .ok (.iload_n 1, 1) := by decide +kernel
theorem dX4_hunts_88 : decode cX4_hunts 88 = .ok (.laload, 1) := by decide +kernel
theorem dX4_hunts_89 : decode cX4_hunts 89 = .ok (.lastore, 1) := by decide +kernel
theorem dX4_hunts_90 : decode cX4_hunts 90 = .ok (.aload_n 0, 1) := by decide +kernel
theorem dX4_hunts_91 : decode cX4_hunts 91 = .ok (.getfield 38, 3) := by decide +kernel
theorem dX4_hunts_94 : decode cX4_hunts 94 = .ok (.iload_n 1, 1) := by decide +kernel
theorem dX4_hunts_95 : decode cX4_hunts 95 = .ok (.aload_n 0, 1) := by decide +kernel
theorem dX4_hunts_96 : decode cX4_hunts 96 = .ok (.getfield 44, 3) := by decide +kernel
theorem dX4_hunts_99 : decode cX4_hunts 99 = .ok (.iload_n 1, 1) := by decide +kernel
theorem dX4_hunts_100 : decode cX4_hunts 100 = .ok (.laload, 1) := by decide +kernel
theorem dX4_hunts_101 : decode cX4_hunts 101 = .ok (.lconst 0, 1) := by decide +kernel
theorem dX4_hunts_102 : decode cX4_hunts 102 = .ok (.lcmp, 1) := by decide +kernel
theorem dX4_hunts_103 : decode cX4_hunts 103 = .ok (.ifCond .ne 14, 3) := by decide +kernel
theorem dX4_hunts_106 : decode cX4_hunts 106 = .ok (.aload_n 0, 1) := by decide +kernel
theorem dX4_hunts_107 : decode cX4_hunts 107 = .ok (.getfield 38, 3) := by decide +kernel
theorem dX4_hunts_110 : decode cX4_hunts 110 = .ok (.iload_n 1, 1) := by decide +kernel
theorem dX4_hunts_111 : decode cX4_hunts 111 = .ok (.iaload, 1) := by decide +kernel
theorem dX4_hunts_112 : decode cX4_hunts 112 = .ok (.iconst 1, 1) := by decide +kernel
theorem dX4_hunts_113 : decode cX4_hunts 113 = .ok (.iadd, 1) := by decide +kernel
theorem dX4_hunts_114 : decode cX4_hunts 114 = .ok (.goto 4, 3) := by decide +kernel
theorem dX4_hunts_117 : decode cX4_hunts 117 = .ok (.iconst 0, 1) := by decide +kernel
theorem dX4_hunts_118 : decode cX4_hunts 118 = .ok (.iastore, 1) := by decide +kernel
theorem dX4_hunts_119 : decode cX4_hunts 119 = .ok (.aload_n 0, 1) := by decide +kernel
theorem dX4_hunts_120 : decode cX4_hunts 120 = .ok (.getfield 38, 3) := by decide +kernel
theorem dX4_hunts_123 : decode cX4_hunts 123 = .ok (.iload_n 1, 1) := by decide +kernel
theorem dX4_hunts_124 : decode cX4_hunts 124 = .ok (.iaload, 1) := by decide +kernel
theorem dX4_hunts_125 : decode cX4_hunts 125 = .ok (.bipush 8, 2) := by decide +kernel
theorem dX4_hunts_127 : decode cX4_hunts 127 = .ok (.if_icmp .ne 20, 3) := by decide +kernel
theorem dX4_hunts_130 : decode cX4_hunts 130 = .ok (.aload_n 0, 1) := by decide +kernel
theorem dX4_hunts_131 : decode cX4_hunts 131 = .ok (.getfield 28, 3) := by decide +kernel
theorem dX4_hunts_134 : decode cX4_hunts 134 = .ok (.iload_n 1, 1) := by decide +kernel
theorem dX4_hunts_135 : decode cX4_hunts 135 = .ok (.iconst (-1), 1) := by decide +kernel
theorem dX4_hunts_136 : decode cX4_hunts 136 = .ok (.iastore, 1) := by decide +kernel
theorem dX4_hunts_137 : decode cX4_hunts 137 = .ok (.aload_n 0, 1) := by decide +kernel
theorem dX4_hunts_138 : decode cX4_hunts 138 = .ok (.getfield 41, 3) := by decide +kernel
theorem dX4_hunts_141 : decode cX4_hunts 141 = .ok (.iload_n 1, 1) := by decide +kernel
theorem dX4_hunts_142 : decode cX4_hunts 142 = .ok (.dup2, 1) := by decide +kernel
theorem dX4_hunts_143 : decode cX4_hunts 143 = .ok (.iaload, 1) := by decide +kernel
theorem dX4_hunts_144 : decode cX4_hunts 144 = .ok (.iconst 1, 1) := by decide +kernel
theorem dX4_hunts_145 : decode cX4_hunts 145 = .ok (.iadd, 1) := by decide +kernel
theorem dX4_hunts_146 : decode cX4_hunts 146 = .ok (.iastore, 1) := by decide +kernel
theorem dX4_hunts_147 : decode cX4_hunts 147 = .ok (.return_, 1) := by decide +kernel
