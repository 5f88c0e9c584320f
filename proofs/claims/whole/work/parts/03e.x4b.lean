set_option maxRecDepth 20000 in
theorem ggX4_part_X4_in : GoodIn wsX4_part wsX4_in := goodIn_r _ [11] (by decide +kernel) (by decide +kernel)
set_option maxRecDepth 20000 in
theorem gX4_part_X4_in : GoodIn wsX4_part (va_wsS RX4 78 yX4_in wsX4_in) := goodIn_app (goodIn_of _ (by decide +kernel)) ggX4_part_X4_in
set_option maxRecDepth 20000 in
theorem ggX4_part_X4_isFirst : GoodIn wsX4_part wsX4_isFirst := goodIn_r _ [14, 8, 9, 10, 11] (by decide +kernel) (by decide +kernel)
set_option maxRecDepth 20000 in
theorem gX4_part_X4_isFirst : GoodIn wsX4_part (va_wsS RX4 128 yX4_isFirst wsX4_isFirst) := goodIn_app (goodIn_of _ (by decide +kernel)) ggX4_part_X4_isFirst
set_option maxRecDepth 20000 in
theorem ggX4_part_X4_isSecond : GoodIn wsX4_part wsX4_isSecond := goodIn_r _ [17, 8, 9, 10, 11] (by decide +kernel) (by decide +kernel)
set_option maxRecDepth 20000 in
theorem gX4_part_X4_isSecond : GoodIn wsX4_part (va_wsS RX4 132 yX4_isSecond wsX4_isSecond) := goodIn_app (goodIn_of _ (by decide +kernel)) ggX4_part_X4_isSecond
theorem dX4_part_0 : decode cX4_part 0 = .ok (.iload_n 1, 1) := by decide +kernel
theorem dX4_part_1 : decode cX4_part 1 = .ok (.iconst 0, 1) := by decide +kernel
theorem dX4_part_2 : decode cX4_part 2 = .ok (.iconst 5, 1) := by decide +kernel
theorem dX4_part_3 : decode cX4_part 3 = .ok (.invokestatic 78, 3) := by decide +kernel
theorem dX4_part_6 : decode cX4_part 6 = .ok (.ifCond .eq 45, 3) := by decide +kernel
theorem dX4_part_9 : decode cX4_part 9 = .ok (.iload_n 2, 1) := by decide +kernel
theorem dX4_part_10 : decode cX4_part 10 = .ok (.iconst 0, 1) := by decide +kernel
theorem dX4_part_11 : decode cX4_part 11 = .ok (.bipush 15, 2) := by decide +kernel
theorem dX4_part_13 : decode cX4_part 13 = .ok (.invokestatic 78, 3) := by decide +kernel
theorem dX4_part_16 : decode cX4_part 16 = .ok (.ifCond .eq 35, 3) := by decide +kernel
theorem dX4_part_19 : decode cX4_part 19 = .ok (.iload_n 3, 1) := by decide +kernel
theorem dX4_part_20 : decode cX4_part 20 = .ok (.iconst 0, 1) := by decide +kernel
theorem dX4_part_21 : decode cX4_part 21 = .ok (.bipush 15, 2) := by decide +kernel
theorem dX4_part_23 : decode cX4_part 23 = .ok (.invokestatic 78, 3) := by decide +kernel
theorem dX4_part_26 : decode cX4_part 26 = .ok (.ifCond .eq 25, 3) := by decide +kernel
theorem dX4_part_29 : decode cX4_part 29 = .ok (.iload_n 1, 1) := by decide +kernel
theorem dX4_part_30 : decode cX4_part 30 = .ok (.iload 4, 2) := by decide +kernel
theorem dX4_part_32 : decode cX4_part 32 = .ok (.invokestatic 128, 3) := by decide +kernel
theorem dX4_part_35 : decode cX4_part 35 = .ok (.ifCond .eq 16, 3) := by decide +kernel
theorem dX4_part_38 : decode cX4_part 38 = .ok (.iload_n 1, 1) := by decide +kernel
theorem dX4_part_39 : decode cX4_part 39 = .ok (.iload 5, 2) := by decide +kernel
theorem dX4_part_41 : decode cX4_part 41 = .ok (.invokestatic 132, 3) := by decide +kernel
theorem dX4_part_44 : decode cX4_part 44 = .ok (.ifCond .eq 7, 3) := by decide +kernel
theorem dX4_part_47 : decode cX4_part 47 = .ok (.iconst 1, 1) := by decide +kernel
theorem dX4_part_48 : decode cX4_part 48 = .ok (.goto 4, 3) := by decide +kernel
theorem dX4_part_51 : decode cX4_part 51 = .ok (.iconst 0, 1) := by decide +kernel
theorem dX4_part_52 : decode cX4_part 52 = .ok (.istore 6, 2) := by decide +kernel
theorem dX4_part_54 : decode cX4_part 54 = .ok (.aload_n 0, 1) := by decide +kernel
theorem dX4_part_55 : decode cX4_part 55 = .ok (.iload 6, 2) := by decide +kernel
theorem dX4_part_57 : decode cX4_part 57 = .ok (.ifCond .ne 7, 3) := by decide +kernel
theorem dX4_part_60 : decode cX4_part 60 = .ok (.iconst 1, 1) := by decide +kernel
theorem dX4_part_61 : decode cX4_part 61 = .ok (.goto 17, 3) := by decide +kernel
theorem dX4_part_64 : decode cX4_part 64 = .ok (.aload_n 0, 1) := by decide +kernel
theorem dX4_part_65 : decode cX4_part 65 = .ok (.getfield 75, 3) := by decide +kernel
theorem dX4_part_68 : decode cX4_part 68 = .ok (.bipush 16, 2) := by decide +kernel
theorem dX4_part_70 : decode cX4_part 70 = .ok (.if_icmp .ne 7, 3) := by decide +kernel
theorem dX4_part_73 : decode cX4_part 73 = .ok (.iconst 2, 1) := by decide +kernel
theorem dX4_part_74 : decode cX4_part 74 = .ok (.goto 4, 3) := by decide +kernel
theorem dX4_part_77 : decode cX4_part 77 = .ok (.iconst 0, 1) := by decide +kernel
theorem dX4_part_78 : decode cX4_part 78 = .ok (.putfield 72, 3) := by decide +kernel
theorem dX4_part_81 : decode cX4_part 81 = .ok (.aload_n 0, 1) := by decide +kernel
theorem dX4_part_82 : decode cX4_part 82 = .ok (.getfield 72, 3) := by decide +kernel
theorem dX4_part_85 : decode cX4_part 85 = .ok (.ifCond .eq 5, 3) := by decide +kernel
theorem dX4_part_88 : decode cX4_part 88 = .ok (.iconst 0, 1) := by decide +kernel
theorem dX4_part_89 : decode cX4_part 89 = .ok (.ireturn, 1) := by decide +kernel
theorem dX4_part_90 : decode cX4_part 90 = .ok (.aload_n 0, 1) := by decide +kernel
theorem dX4_part_91 : decode cX4_part 91 = .ok (.getfield 7, 3) := by decide +kernel
theorem dX4_part_94 : decode cX4_part 94 = .ok (.aload_n 0, 1) := by decide +kernel
theorem dX4_part_95 : decode cX4_part 95 = .ok (.getfield 75, 3) := by decide +kernel
theorem dX4_part_98 : decode cX4_part 98 = .ok (.iload_n 1, 1) := by decide +kernel
theorem dX4_part_99 : decode cX4_part 99 = .ok (.iastore, 1) := by decide +kernel
theorem dX4_part_100 : decode cX4_part 100 = .ok (.aload_n 0, 1) := by decide +kernel
theorem dX4_part_101 : decode cX4_part 101 = .ok (.getfield 13, 3) := by decide +kernel
theorem dX4_part_104 : decode cX4_part 104 = .ok (.aload_n 0, 1) := by decide +kernel
theorem dX4_part_105 : decode cX4_part 105 = .ok (.getfield 75, 3) := by decide +kernel
theorem dX4_part_108 : decode cX4_part 108 = .ok (.iload_n 2, 1) := by decide +kernel
theorem dX4_part_109 : decode cX4_part 109 = .ok (.iastore, 1) := by decide +kernel
theorem dX4_part_110 : decode cX4_part 110 = .ok (.aload_n 0, 1) := by decide +kernel
theorem dX4_part_111 : decode cX4_part 111 = .ok (.getfield 16, 3) := by decide +kernel
theorem dX4_part_114 : decode cX4_part 114 = .ok (.aload_n 0, 1) := by decide +kernel
theorem dX4_part_115 : decode cX4_part 115 = .ok (.getfield 75, 3) := by decide +kernel
theorem dX4_part_118 : decode cX4_part 118 = .ok (.iload_n 3, 1) := by decide +kernel
theorem dX4_part_119 : decode cX4_part 119 = .ok (.iastore, 1) := by decide +kernel
theorem dX4_part_120 : decode cX4_part 120 = .ok (.aload_n 0, 1) := by decide +kernel
theorem dX4_part_121 : decode cX4_part 121 = .ok (.getfield 19, 3) := by decide +kernel
theorem dX4_part_124 : decode cX4_part 124 = .ok (.aload_n 0, 1) := by decide +kernel
theorem dX4_part_125 : decode cX4_part 125 = .ok (.getfield 75, 3) := by decide +kernel
theorem dX4_part_128 : decode cX4_part 128 = .ok (.iload 4, 2) := by decide +kernel
theorem dX4_part_130 : decode cX4_part 130 = .ok (.iastore, 1) := by decide +kernel
theorem dX4_part_131 : decode cX4_part 131 = .ok (.aload_n 0, 1) := by decide +kernel
theorem dX4_part_132 : decode cX4_part 132 = .ok (.getfield 22, 3) := by decide +kernel
theorem dX4_part_135 : decode cX4_part 135 = .ok (.aload_n 0, 1) := by decide +kernel
theorem dX4_part_136 : decode cX4_part 136 = .ok (.getfield 75, 3) := by decide +kernel
theorem dX4_part_139 : decode cX4_part 139 = .ok (.iload 5, 2) := by decide +kernel
theorem dX4_part_141 : decode cX4_part 141 = .ok (.iastore, 1) := by decide +kernel
theorem dX4_part_142 : decode cX4_part 142 = .ok (.aload_n 0, 1) := by decide +kernel
theorem dX4_part_143 : decode cX4_part 143 = .ok (.dup, 1) := by decide +kernel
theorem dX4_part_144 : decode cX4_part 144 = .ok (.getfield 75, 3) := by decide +kernel
theorem dX4_part_147 : decode cX4_part 147 = .ok (.iconst 1, 1) := by decide +kernel
theorem dX4_part_148 : decode cX4_part 148 = .ok (.iadd, 1) := by decide +kernel
theorem dX4_part_149 : decode cX4_part 149 = .ok (.putfield 75, 3) := by decide +kernel
theorem dX4_part_152 : decode cX4_part 152 = .ok (.aload_n 0, 1) := by decide +kernel
theorem dX4_part_153 : decode cX4_part 153 = .ok (.getfield 75, 3) := by decide +kernel
theorem dX4_part_156 : decode cX4_part 156 = .ok (.iconst 1, 1) := by decide +kernel
theorem dX4_part_157 : decode cX4_part 157 = .ok (.isub, 1) := by decide +kernel
theorem dX4_part_158 : decode cX4_part 158 = .ok (.ireturn, 1) := by decide +kernel
set_option maxRecDepth 20000 in
theorem ggX4_set_X4_isPart : GoodIn wsX4_set wsX4_isPart := goodIn_r _ [8, 9, 10, 11, 7, 12, 16, 17, 18, 19, 20, 21, 22, 23, 24, 25, 26, 27, 28, 29, 30, 31, 32, 33, 34, 35, 36, 37, 38, 39, 40] (by decide +kernel) (by decide +kernel)
set_option maxRecDepth 20000 in
theorem gX4_set_X4_isPart : GoodIn wsX4_set (wsV RX4 135 RX4 yX4_isPart wsX4_isPart) := goodIn_app (goodIn_of _ (by decide +kernel)) ggX4_set_X4_isPart
set_option maxRecDepth 20000 in
theorem ggX4_set_X4_isSecond : GoodIn wsX4_set wsX4_isSecond := goodIn_r _ [15, 10, 11, 7, 12] (by decide +kernel) (by decide +kernel)
set_option maxRecDepth 20000 in
theorem gX4_set_X4_isSecond : GoodIn wsX4_set (va_wsS RX4 132 yX4_isSecond wsX4_isSecond) := goodIn_app (goodIn_of _ (by decide +kernel)) ggX4_set_X4_isSecond
theorem dX4_set_0 : decode cX4_set 0 = .ok (.aload_n 0, 1) := by decide +kernel
theorem dX4_set_1 : decode cX4_set 1 = .ok (.aload_n 0, 1) := by decide +kernel
theorem dX4_set_2 : decode cX4_set 2 = .ok (.iload_n 1, 1) := by decide +kernel
theorem dX4_set_3 : decode cX4_set 3 = .ok (.invokevirtual 135, 3) := by decide +kernel
theorem dX4_set_6 : decode cX4_set 6 = .ok (.ifCond .ne 7, 3) := by decide +kernel
theorem dX4_set_9 : decode cX4_set 9 = .ok (.iconst 1, 1) := by decide +kernel
theorem dX4_set_10 : decode cX4_set 10 = .ok (.goto 21, 3) := by decide +kernel
theorem dX4_set_13 : decode cX4_set 13 = .ok (.aload_n 0, 1) := by decide +kernel
theorem dX4_set_14 : decode cX4_set 14 = .ok (.getfield 7, 3) := by decide +kernel
theorem dX4_set_17 : decode cX4_set 17 = .ok (.iload_n 1, 1) := by decide +kernel
theorem dX4_set_18 : decode cX4_set 18 = .ok (.iaload, 1) := by decide +kernel
theorem dX4_set_19 : decode cX4_set 19 = .ok (.iload_n 2, 1) := by decide +kernel
theorem dX4_set_20 : decode cX4_set 20 = .ok (.invokestatic 132, 3) := by decide +kernel
theorem dX4_set_23 : decode cX4_set 23 = .ok (.ifCond .ne 7, 3) := by decide +kernel
theorem dX4_set_26 : decode cX4_set 26 = .ok (.iconst 2, 1) := by decide +kernel
theorem dX4_set_27 : decode cX4_set 27 = .ok (.goto 4, 3) := by decide +kernel
theorem dX4_set_30 : decode cX4_set 30 = .ok (.iconst 0, 1) := by decide +kernel
theorem dX4_set_31 : decode cX4_set 31 = .ok (.putfield 72, 3) := by decide +kernel
theorem dX4_set_34 : decode cX4_set 34 = .ok (.aload_n 0, 1) := by decide +kernel
theorem dX4_set_35 : decode cX4_set 35 = .ok (.getfield 72, 3) := by decide +kernel
theorem dX4_set_38 : decode cX4_set 38 = .ok (.ifCond .eq 5, 3) := by decide +kernel
theorem dX4_set_41 : decode cX4_set 41 = .ok (.iconst 0, 1) := by decide +kernel
theorem dX4_set_42 : decode cX4_set 42 = .ok (.ireturn, 1) := by decide +kernel
theorem dX4_set_43 : decode cX4_set 43 = .ok (.aload_n 0, 1) := by decide +kernel
theorem dX4_set_44 : decode cX4_set 44 = .ok (.getfield 22, 3) := by decide +kernel
theorem dX4_set_47 : decode cX4_set 47 = .ok (.iload_n 1, 1) := by decide +kernel
theorem dX4_set_48 : decode cX4_set 48 = .ok (.iaload, 1) := by decide +kernel
theorem dX4_set_49 : decode cX4_set 49 = .ok (.istore_n 3, 1) := by decide +kernel
theorem dX4_set_50 : decode cX4_set 50 = .ok (.aload_n 0, 1) := by decide +kernel
theorem dX4_set_51 : decode cX4_set 51 = .ok (.getfield 22, 3) := by decide +kernel
theorem dX4_set_54 : decode cX4_set 54 = .ok (.iload_n 1, 1) := by decide +kernel
theorem dX4_set_55 : decode cX4_set 55 = .ok (.iload_n 2, 1) := by decide +kernel
theorem dX4_set_56 : decode cX4_set 56 = .ok (.iastore, 1) := by decide +kernel
theorem dX4_set_57 : decode cX4_set 57 = .ok (.iload_n 3, 1) := by decide +kernel
theorem dX4_set_58 : decode cX4_set 58 = .ok (.ireturn, 1) := by decide +kernel
set_option maxRecDepth 20000 in
theorem ggX4_isOutput_X4_isPart : GoodIn wsX4_isOutput wsX4_isPart := goodIn_r _ [6, 7, 8, 9, 5, 10, 14, 15, 16, 17, 18, 19, 20, 21, 22, 23, 24, 25, 26, 27, 28, 29, 30, 31, 32, 33, 34, 35, 36, 37, 38] (by decide +kernel) (by decide +kernel)
set_option maxRecDepth 20000 in
theorem gX4_isOutput_X4_isPart : GoodIn wsX4_isOutput (wsV RX4 135 RX4 yX4_isPart wsX4_isPart) := goodIn_app (goodIn_of _ (by decide +kernel)) ggX4_isOutput_X4_isPart
set_option maxRecDepth 20000 in
theorem ggX4_isOutput_X4_outputs : GoodIn wsX4_isOutput wsX4_outputs := goodIn_r _ [13] (by decide +kernel) (by decide +kernel)
set_option maxRecDepth 20000 in
theorem gX4_isOutput_X4_outputs : GoodIn wsX4_isOutput (va_wsS RX4 139 yX4_outputs wsX4_outputs) := goodIn_app (goodIn_of _ (by decide +kernel)) ggX4_isOutput_X4_outputs
set_option maxRecDepth 20000 in
theorem ggX4_isOutput_X4_in : GoodIn wsX4_isOutput wsX4_in := goodIn_r _ [10] (by decide +kernel) (by decide +kernel)
set_option maxRecDepth 20000 in
theorem gX4_isOutput_X4_in : GoodIn wsX4_isOutput (va_wsS RX4 78 yX4_in wsX4_in) := goodIn_app (goodIn_of _ (by decide +kernel)) ggX4_isOutput_X4_in
theorem dX4_isOutput_0 : decode cX4_isOutput 0 = .ok (.aload_n 0, 1) := by decide +kernel
theorem dX4_isOutput_1 : decode cX4_isOutput 1 = .ok (.iload_n 1, 1) := by decide +kernel
theorem dX4_isOutput_2 : decode cX4_isOutput 2 = .ok (.invokevirtual 135, 3) := by decide +kernel
theorem dX4_isOutput_5 : decode cX4_isOutput 5 = .ok (.ifCond .eq 26, 3) := by decide +kernel
theorem dX4_isOutput_8 : decode cX4_isOutput 8 = .ok (.iload_n 2, 1) := by decide +kernel
theorem dX4_isOutput_9 : decode cX4_isOutput 9 = .ok (.iconst 0, 1) := by decide +kernel
theorem dX4_isOutput_10 : decode cX4_isOutput 10 = .ok (.aload_n 0, 1) := by decide +kernel
theorem dX4_isOutput_11 : decode cX4_isOutput 11 = .ok (.getfield 7, 3) := by decide +kernel
theorem dX4_isOutput_14 : decode cX4_isOutput 14 = .ok (.iload_n 1, 1) := by decide +kernel
theorem dX4_isOutput_15 : decode cX4_isOutput 15 = .ok (.iaload, 1) := by decide +kernel
theorem dX4_isOutput_16 : decode cX4_isOutput 16 = .ok (.invokestatic 139, 3) := by decide +kernel
theorem dX4_isOutput_19 : decode cX4_isOutput 19 = .ok (.iconst 1, 1) := by decide +kernel
theorem dX4_isOutput_20 : decode cX4_isOutput 20 = .ok (.isub, 1) := by decide +kernel
theorem dX4_isOutput_21 : decode cX4_isOutput 21 = .ok (.invokestatic 78, 3) := by decide +kernel
theorem dX4_isOutput_24 : decode cX4_isOutput 24 = .ok (.ifCond .eq 7, 3) := by decide +kernel
theorem dX4_isOutput_27 : decode cX4_isOutput 27 = .ok (.iconst 1, 1) := by decide +kernel
theorem dX4_isOutput_28 : decode cX4_isOutput 28 = .ok (.goto 4, 3) := by decide +kernel
theorem dX4_isOutput_31 : decode cX4_isOutput 31 = .ok (.iconst 0, 1) := by decide +kernel
theorem dX4_isOutput_32 : decode cX4_isOutput 32 = .ok (.ireturn, 1) := by decide +kernel
set_option maxRecDepth 20000 in
theorem ggX4_isInput_X4_isPart : GoodIn wsX4_isInput wsX4_isPart := goodIn_r _ [6, 7, 8, 9, 5, 10, 14, 15, 16, 17, 18, 19, 20, 21, 22, 23, 24, 25, 26, 27, 28, 29, 30, 31, 32, 33, 34, 35, 36, 37, 38] (by decide +kernel) (by decide +kernel)
set_option maxRecDepth 20000 in
theorem gX4_isInput_X4_isPart : GoodIn wsX4_isInput (wsV RX4 135 RX4 yX4_isPart wsX4_isPart) := goodIn_app (goodIn_of _ (by decide +kernel)) ggX4_isInput_X4_isPart
set_option maxRecDepth 20000 in
theorem ggX4_isInput_X4_inputs : GoodIn wsX4_isInput wsX4_inputs := goodIn_r _ [13] (by decide +kernel) (by decide +kernel)
set_option maxRecDepth 20000 in
theorem gX4_isInput_X4_inputs : GoodIn wsX4_isInput (va_wsS RX4 142 yX4_inputs wsX4_inputs) := goodIn_app (goodIn_of _ (by decide +kernel)) ggX4_isInput_X4_inputs
set_option maxRecDepth 20000 in
theorem ggX4_isInput_X4_in : GoodIn wsX4_isInput wsX4_in := goodIn_r _ [10] (by decide +kernel) (by decide +kernel)
set_option maxRecDepth 20000 in
theorem gX4_isInput_X4_in : GoodIn wsX4_isInput (va_wsS RX4 78 yX4_in wsX4_in) := goodIn_app (goodIn_of _ (by decide +kernel)) ggX4_isInput_X4_in
theorem dX4_isInput_0 : decode cX4_isInput 0 = .ok (.aload_n 0, 1) := by decide +kernel
theorem dX4_isInput_1 : decode cX4_isInput 1 = .ok (.iload_n 1, 1) := by decide +kernel
theorem dX4_isInput_2 : decode cX4_isInput 2 = .ok (.invokevirtual 135, 3) := by decide +kernel
theorem dX4_isInput_5 : decode cX4_isInput 5 = .ok (.ifCond .eq 26, 3) := by decide +kernel
theorem dX4_isInput_8 : decode cX4_isInput 8 = .ok (.iload_n 2, 1) := by decide +kernel
theorem dX4_isInput_9 : decode cX4_isInput 9 = .ok (.iconst 0, 1) := by decide +kernel
theorem dX4_isInput_10 : decode cX4_isInput 10 = .ok (.aload_n 0, 1) := by decide +kernel
theorem dX4_isInput_11 : decode cX4_isInput 11 = .ok (.getfield 7, 3) := by decide +kernel
theorem dX4_isInput_14 : decode cX4_isInput 14 = .ok (.iload_n 1, 1) := by decide +kernel
theorem dX4_isInput_15 : decode cX4_isInput 15 = .ok (.iaload, 1) := by decide +kernel
theorem dX4_isInput_16 : decode cX4_isInput 16 = .ok (.invokestatic 142, 3) := by decide +kernel
theorem dX4_isInput_19 : decode cX4_isInput 19 = .ok (.iconst 1, 1) := by decide +kernel
theorem dX4_isInput_20 : decode cX4_isInput 20 = .ok (.isub, 1) := by decide +kernel
theorem dX4_isInput_21 : decode cX4_isInput 21 = .ok (.invokestatic 78, 3) := by decide +kernel
theorem dX4_isInput_24 : decode cX4_isInput 24 = .ok (.ifCond .eq 7, 3) := by decide +kernel
theorem dX4_isInput_27 : decode cX4_isInput 27 = .ok (.iconst 1, 1) := by decide +kernel
theorem dX4_isInput_28 : decode cX4_isInput 28 = .ok (.goto 4, 3) := by decide +kernel
theorem dX4_isInput_31 : decode cX4_isInput 31 = .ok (.iconst 0, 1) := by decide +kernel
theorem dX4_isInput_32 : decode cX4_isInput 32 = .ok (.ireturn, 1) := by decide +kernel
theorem dX4_led_0 : decode cX4_led 0 = .ok (.aload_n 0, 1) := by decide +kernel
theorem dX4_led_1 : decode cX4_led 1 = .ok (.getfield 25, 3) := by decide +kernel
theorem dX4_led_4 : decode cX4_led 4 = .ok (.iconst 2, 1) := by decide +kernel
theorem dX4_led_5 : decode cX4_led 5 = .ok (.iload_n 1, 1) := by decide +kernel
theorem dX4_led_6 : decode cX4_led 6 = .ok (.imul, 1) := by decide +kernel
theorem dX4_led_7 : decode cX4_led 7 = .ok (.iload_n 2, 1) := by decide +kernel
theorem dX4_led_8 : decode cX4_led 8 = .ok (.iadd, 1) := by decide +kernel
theorem dX4_led_9 : decode cX4_led 9 = .ok (.iaload, 1) := by decide +kernel
theorem dX4_led_10 : decode cX4_led 10 = .ok (.istore_n 3, 1) := by decide +kernel
theorem dX4_led_11 : decode cX4_led 11 = .ok (.iload_n 3, 1) := by decide +kernel
theorem dX4_led_12 : decode cX4_led 12 = .ok (.ifCond .ne 7, 3) := by decide +kernel
theorem dX4_led_15 : decode cX4_led 15 = .ok (.iconst (-1), 1) := by decide +kernel
theorem dX4_led_16 : decode cX4_led 16 = .ok (.goto 8, 3) := by decide +kernel
theorem dX4_led_19 : decode cX4_led 19 = .ok (.iload_n 3, 1) := by decide +kernel
theorem dX4_led_20 : decode cX4_led 20 = .ok (.iconst 1, 1) := by decide +kernel
theorem dX4_led_21 : decode cX4_led 21 = .ok (.isub, 1) := by decide +kernel
theorem dX4_led_22 : decode cX4_led 22 = .ok (.iconst 2, 1) := by decide +kernel
theorem dX4_led_23 : decode cX4_led 23 = .ok (.idiv, 1) := by decide +kernel
theorem dX4_led_24 : decode cX4_led 24 = .ok (.ireturn, 1) := by decide +kernel
set_option maxRecDepth 20000 in
theorem ggX4_lead_X4_isOutput : GoodIn wsX4_lead wsX4_isOutput := goodIn_r _ [7, 8, 9, 10, 11, 6, 12, 13, 14, 15, 16, 17, 18, 19, 31, 32, 33, 34, 35, 36, 37, 38, 39, 40, 41, 42, 43, 44, 45, 46, 47, 48, 49, 50, 51, 52, 53, 54, 55] (by decide +kernel) (by decide +kernel)
set_option maxRecDepth 20000 in
theorem gX4_lead_X4_isOutput : GoodIn wsX4_lead (wsV RX4 145 RX4 yX4_isOutput wsX4_isOutput) := goodIn_app (goodIn_of _ (by decide +kernel)) ggX4_lead_X4_isOutput
set_option maxRecDepth 20000 in
theorem ggX4_lead_X4_isInput : GoodIn wsX4_lead wsX4_isInput := goodIn_r _ [23, 8, 9, 10, 11, 6, 12, 13, 14, 15, 16, 24, 25, 26, 31, 32, 33, 34, 35, 36, 37, 38, 39, 40, 41, 42, 43, 44, 45, 46, 47, 48, 49, 50, 51, 52, 53, 54, 55] (by decide +kernel) (by decide +kernel)
set_option maxRecDepth 20000 in
theorem gX4_lead_X4_isInput : GoodIn wsX4_lead (wsV RX4 148 RX4 yX4_isInput wsX4_isInput) := goodIn_app (goodIn_of _ (by decide +kernel)) ggX4_lead_X4_isInput
set_option maxRecDepth 20000 in
theorem ggX4_lead_X4_led : GoodIn wsX4_lead wsX4_led := goodIn_r _ [30, 2, 31, 32, 33, 34, 35, 36, 37, 38, 39, 40, 41, 42, 43, 44, 45, 46, 47, 48, 49, 50, 51, 52, 53, 54, 55] (by decide +kernel) (by decide +kernel)
set_option maxRecDepth 20000 in
theorem gX4_lead_X4_led : GoodIn wsX4_lead (wsV RX4 151 RX4 yX4_led wsX4_led) := goodIn_app (goodIn_of _ (by decide +kernel)) ggX4_lead_X4_led
theorem dX4_lead_0 : decode cX4_lead 0 = .ok (.aload_n 0, 1) := by decide +kernel
theorem dX4_lead_1 : decode cX4_lead 1 = .ok (.aload_n 0, 1) := by decide +kernel
theorem dX4_lead_2 : decode cX4_lead 2 = .ok (.iload_n 1, 1) := by decide +kernel
theorem dX4_lead_3 : decode cX4_lead 3 = .ok (.iload_n 2, 1) := by decide +kernel
theorem dX4_lead_4 : decode cX4_lead 4 = .ok (.invokevirtual 145, 3) := by decide +kernel
theorem dX4_lead_7 : decode cX4_lead 7 = .ok (.ifCond .eq 17, 3) := by decide +kernel
theorem dX4_lead_10 : decode cX4_lead 10 = .ok (.aload_n 0, 1) := by decide +kernel
theorem dX4_lead_11 : decode cX4_lead 11 = .ok (.iload_n 3, 1) := by decide +kernel
theorem dX4_lead_12 : decode cX4_lead 12 = .ok (.iload 4, 2) := by decide +kernel
theorem dX4_lead_14 : decode cX4_lead 14 = .ok (.invokevirtual 148, 3) := by decide +kernel
theorem dX4_lead_17 : decode cX4_lead 17 = .ok (.ifCond .eq 7, 3) := by decide +kernel
theorem dX4_lead_20 : decode cX4_lead 20 = .ok (.iconst 0, 1) := by decide +kernel
theorem dX4_lead_21 : decode cX4_lead 21 = .ok (.goto 4, 3) := by decide +kernel
theorem dX4_lead_24 : decode cX4_lead 24 = .ok (.iconst 1, 1) := by decide +kernel
theorem dX4_lead_25 : decode cX4_lead 25 = .ok (.putfield 72, 3) := by decide +kernel
theorem dX4_lead_28 : decode cX4_lead 28 = .ok (.aload_n 0, 1) := by decide +kernel
theorem dX4_lead_29 : decode cX4_lead 29 = .ok (.getfield 72, 3) := by decide +kernel
theorem dX4_lead_32 : decode cX4_lead 32 = .ok (.ifCond .eq 5, 3) := by decide +kernel
theorem dX4_lead_35 : decode cX4_lead 35 = .ok (.iconst 0, 1) := by decide +kernel
theorem dX4_lead_36 : decode cX4_lead 36 = .ok (.ireturn, 1) := by decide +kernel
theorem dX4_lead_37 : decode cX4_lead 37 = .ok (.iconst 2, 1) := by decide +kernel
theorem dX4_lead_38 : decode cX4_lead 38 = .ok (.iload_n 3, 1) := by decide +kernel
theorem dX4_lead_39 : decode cX4_lead 39 = .ok (.imul, 1) := by decide +kernel
theorem dX4_lead_40 : decode cX4_lead 40 = .ok (.iload 4, 2) := by decide +kernel
theorem dX4_lead_42 : decode cX4_lead 42 = .ok (.iadd, 1) := by decide +kernel
theorem dX4_lead_43 : decode cX4_lead 43 = .ok (.iconst 1, 1) := by decide +kernel
theorem dX4_lead_44 : decode cX4_lead 44 = .ok (.iadd, 1) := by decide +kernel
theorem dX4_lead_45 : decode cX4_lead 45 = .ok (.istore 5, 2) := by decide +kernel
theorem dX4_lead_47 : decode cX4_lead 47 = .ok (.iconst 0, 1) := by decide +kernel
theorem dX4_lead_48 : decode cX4_lead 48 = .ok (.istore 6, 2) := by decide +kernel
theorem dX4_lead_50 : decode cX4_lead 50 = .ok (.iload 6, 2) := by decide +kernel
theorem dX4_lead_52 : decode cX4_lead 52 = .ok (.bipush 32, 2) := by decide +kernel
theorem dX4_lead_54 : decode cX4_lead 54 = .ok (.if_icmp .ge 43, 3) := by decide +kernel
theorem dX4_lead_57 : decode cX4_lead 57 = .ok (.aload_n 0, 1) := by decide +kernel
theorem dX4_lead_58 : decode cX4_lead 58 = .ok (.aload_n 0, 1) := by decide +kernel
theorem dX4_lead_59 : decode cX4_lead 59 = .ok (.getfield 25, 3) := by decide +kernel
theorem dX4_lead_62 : decode cX4_lead 62 = .ok (.iload 6, 2) := by decide +kernel
theorem dX4_lead_64 : decode cX4_lead 64 = .ok (.iaload, 1) := by decide +kernel
theorem dX4_lead_65 : decode cX4_lead 65 = .ok (.iload 5, 2) := by decide +kernel
theorem dX4_lead_67 : decode cX4_lead 67 = .ok (.if_icmp .ne 17, 3) := by decide +kernel
theorem dX4_lead_70 : decode cX4_lead 70 = .ok (.iload 6, 2) := by decide +kernel
theorem dX4_lead_72 : decode cX4_lead 72 = .ok (.iconst 2, 1) := by decide +kernel
theorem dX4_lead_73 : decode cX4_lead 73 = .ok (.iload_n 1, 1) := by decide +kernel
theorem dX4_lead_74 : decode cX4_lead 74 = .ok (.imul, 1) := by decide +kernel
theorem dX4_lead_75 : decode cX4_lead 75 = .ok (.iload_n 2, 1) := by decide +kernel
theorem dX4_lead_76 : decode cX4_lead 76 = .ok (.iadd, 1) := by decide +kernel
theorem dX4_lead_77 : decode cX4_lead 77 = .ok (.if_icmp .eq 7, 3) := by decide +kernel
theorem dX4_lead_80 : decode cX4_lead 80 = .ok (.iconst 2, 1) := by decide +kernel
theorem dX4_lead_81 : decode cX4_lead 81 = .ok (.goto 7, 3) := by decide +kernel
theorem dX4_lead_84 : decode cX4_lead 84 = .ok (.aload_n 0, 1) := by decide +kernel
theorem dX4_lead_85 : decode cX4_lead 85 = .ok (.getfield 72, 3) := by decide +kernel
theorem dX4_lead_88 : decode cX4_lead 88 = .ok (.putfield 72, 3) := by decide +kernel
theorem dX4_lead_91 : decode cX4_lead 91 = .ok (.iinc 6 1, 3) := by decide +kernel
theorem dX4_lead_94 : decode cX4_lead 94 = .ok (.goto (-44), 3) := by decide +kernel
theorem dX4_lead_97 : decode cX4_lead 97 = .ok (.aload_n 0, 1) := by decide +kernel
theorem dX4_lead_98 : decode cX4_lead 98 = .ok (.getfield 72, 3) := by decide +kernel
theorem dX4_lead_101 : decode cX4_lead 101 = .ok (.ifCond .eq 5, 3) := by decide +kernel
theorem dX4_lead_104 : decode cX4_lead 104 = .ok (.iconst 0, 1) := by decide +kernel
theorem dX4_lead_105 : decode cX4_lead 105 = .ok (.ireturn, 1) := by decide +kernel
theorem dX4_lead_106 : decode cX4_lead 106 = .ok (.aload_n 0, 1) := by decide +kernel
theorem dX4_lead_107 : decode cX4_lead 107 = .ok (.iload_n 1, 1) := by decide +kernel
theorem dX4_lead_108 : decode cX4_lead 108 = .ok (.iload_n 2, 1) := by decide +kernel
theorem dX4_lead_109 : decode cX4_lead 109 = .ok (.invokevirtual 151, 3) := by decide +kernel
theorem dX4_lead_112 : decode cX4_lead 112 = .ok (.istore 6, 2) := by decide +kernel
theorem dX4_lead_114 : decode cX4_lead 114 = .ok (.aload_n 0, 1) := by decide +kernel
theorem dX4_lead_115 : decode cX4_lead 115 = .ok (.getfield 25, 3) := by decide +kernel
theorem dX4_lead_118 : decode cX4_lead 118 = .ok (.iconst 2, 1) := by decide +kernel
theorem dX4_lead_119 : decode cX4_lead 119 = .ok (.iload_n 1, 1) := by decide +kernel
theorem dX4_lead_120 : decode cX4_lead 120 = .ok (.imul, 1) := by decide +kernel
theorem dX4_lead_121 : decode cX4_lead 121 = .ok (.iload_n 2, 1) := by decide +kernel
theorem dX4_lead_122 : decode cX4_lead 122 = .ok (.iadd, 1) := by decide +kernel
theorem dX4_lead_123 : decode cX4_lead 123 = .ok (.iload 5, 2) := by decide +kernel
theorem dX4_lead_125 : decode cX4_lead 125 = .ok (.iastore, 1) := by decide +kernel
theorem dX4_lead_126 : decode cX4_lead 126 = .ok (.iload 6, 2) := by decide +kernel
theorem dX4_lead_128 : decode cX4_lead 128 = .ok (.ireturn, 1) := by decide +kernel
set_option maxRecDepth 20000 in
theorem ggX4_cut_X4_isOutput : GoodIn wsX4_cut wsX4_isOutput := goodIn_r _ [7, 8, 9, 10, 11, 6, 12, 13, 14, 15, 16, 17, 18, 19, 24, 25, 26, 27, 28, 29, 30, 31, 32, 33, 34, 35, 36, 37, 38, 39, 40, 41, 42, 43, 44, 45, 46, 47, 48] (by decide +kernel) (by decide +kernel)
set_option maxRecDepth 20000 in
theorem gX4_cut_X4_isOutput : GoodIn wsX4_cut (wsV RX4 145 RX4 yX4_isOutput wsX4_isOutput) := goodIn_app (goodIn_of _ (by decide +kernel)) ggX4_cut_X4_isOutput
set_option maxRecDepth 20000 in
theorem ggX4_cut_X4_led : GoodIn wsX4_cut wsX4_led := goodIn_r _ [23, 2, 24, 25, 26, 27, 28, 29, 30, 31, 32, 33, 34, 35, 36, 37, 38, 39, 40, 41, 42, 43, 44, 45, 46, 47, 48] (by decide +kernel) (by decide +kernel)
set_option maxRecDepth 20000 in
theorem gX4_cut_X4_led : GoodIn wsX4_cut (wsV RX4 151 RX4 yX4_led wsX4_led) := goodIn_app (goodIn_of _ (by decide +kernel)) ggX4_cut_X4_led
theorem dX4_cut_0 : decode cX4_cut 0 = .ok (.aload_n 0, 1) := by decide +kernel
theorem dX4_cut_1 : decode cX4_cut 1 = .ok (.aload_n 0, 1) := by decide +kernel
theorem dX4_cut_2 : decode cX4_cut 2 = .ok (.iload_n 1, 1) := by decide +kernel
theorem dX4_cut_3 : decode cX4_cut 3 = .ok (.iload_n 2, 1) := by decide +kernel
theorem dX4_cut_4 : decode cX4_cut 4 = .ok (.invokevirtual 145, 3) := by decide +kernel
theorem dX4_cut_7 : decode cX4_cut 7 = .ok (.ifCond .eq 7, 3) := by decide +kernel
theorem dX4_cut_10 : decode cX4_cut 10 = .ok (.iconst 0, 1) := by decide +kernel
theorem dX4_cut_11 : decode cX4_cut 11 = .ok (.goto 4, 3) := by decide +kernel
theorem dX4_cut_14 : decode cX4_cut 14 = .ok (.iconst 1, 1) := by decide +kernel
theorem dX4_cut_15 : decode cX4_cut 15 = .ok (.putfield 72, 3) := by decide +kernel
theorem dX4_cut_18 : decode cX4_cut 18 = .ok (.aload_n 0, 1) := by decide +kernel
theorem dX4_cut_19 : decode cX4_cut 19 = .ok (.getfield 72, 3) := by decide +kernel
theorem dX4_cut_22 : decode cX4_cut 22 = .ok (.ifCond .eq 5, 3) := by decide +kernel
theorem dX4_cut_25 : decode cX4_cut 25 = .ok (.iconst 0, 1) := by decide +kernel
theorem dX4_cut_26 : decode cX4_cut 26 = .ok (.ireturn, 1) := by decide +kernel
theorem dX4_cut_27 : decode cX4_cut 27 = .ok (.aload_n 0, 1) := by decide +kernel
theorem dX4_cut_28 : decode cX4_cut 28 = .ok (.iload_n 1, 1) := by decide +kernel
theorem dX4_cut_29 : decode cX4_cut 29 = .ok (.iload_n 2, 1) := by decide +kernel
theorem dX4_cut_30 : decode cX4_cut 30 = .ok (.invokevirtual 151, 3) := by decide +kernel
theorem dX4_cut_33 : decode cX4_cut 33 = .ok (.istore_n 3, 1) := by decide +kernel
theorem dX4_cut_34 : decode cX4_cut 34 = .ok (.aload_n 0, 1) := by decide +kernel
theorem dX4_cut_35 : decode cX4_cut 35 = .ok (.getfield 25, 3) := by decide +kernel
theorem dX4_cut_38 : decode cX4_cut 38 = .ok (.iconst 2, 1) := by decide +kernel
theorem dX4_cut_39 : decode cX4_cut 39 = .ok (.iload_n 1, 1) := by decide +kernel
theorem dX4_cut_40 : decode cX4_cut 40 = .ok (.imul, 1) := by decide +kernel
theorem dX4_cut_41 : decode cX4_cut 41 = .ok (.iload_n 2, 1) := by decide +kernel
theorem dX4_cut_42 : decode cX4_cut 42 = .ok (.iadd, 1) := by decide +kernel
theorem dX4_cut_43 : decode cX4_cut 43 = .ok (.iconst 0, 1) := by decide +kernel
theorem dX4_cut_44 : decode cX4_cut 44 = .ok (.iastore, 1) := by decide +kernel
theorem dX4_cut_45 : decode cX4_cut 45 = .ok (.iload_n 3, 1) := by decide +kernel
theorem dX4_cut_46 : decode cX4_cut 46 = .ok (.ireturn, 1) := by decide +kernel
set_option maxRecDepth 20000 in
theorem ggX4_lock_X4_isPart : GoodIn wsX4_lock wsX4_isPart := goodIn_r _ [11, 12, 13, 14, 10, 15, 16, 17, 18, 19, 20, 21, 22, 23, 24, 25, 26, 27, 28, 29, 30, 31, 32, 33, 34, 35, 36, 37, 38, 39, 40] (by decide +kernel) (by decide +kernel)
set_option maxRecDepth 20000 in
theorem gX4_lock_X4_isPart : GoodIn wsX4_lock (wsV RX4 135 RX4 yX4_isPart wsX4_isPart) := goodIn_app (goodIn_of _ (by decide +kernel)) ggX4_lock_X4_isPart
set_option maxRecDepth 20000 in
theorem ggX4_lock_X4_in : GoodIn wsX4_lock wsX4_in := goodIn_r _ [15] (by decide +kernel) (by decide +kernel)
set_option maxRecDepth 20000 in
theorem gX4_lock_X4_in : GoodIn wsX4_lock (va_wsS RX4 78 yX4_in wsX4_in) := goodIn_app (goodIn_of _ (by decide +kernel)) ggX4_lock_X4_in
theorem dX4_lock_0 : decode cX4_lock 0 = .ok (.aload_n 0, 1) := by decide +kernel
theorem dX4_lock_1 : decode cX4_lock 1 = .ok (.aload_n 0, 1) := by decide +kernel
theorem dX4_lock_2 : decode cX4_lock 2 = .ok (.iload_n 1, 1) := by decide +kernel
theorem dX4_lock_3 : decode cX4_lock 3 = .ok (.invokevirtual 135, 3) := by decide +kernel
theorem dX4_lock_6 : decode cX4_lock 6 = .ok (.ifCond .ne 7, 3) := by decide +kernel
theorem dX4_lock_9 : decode cX4_lock 9 = .ok (.iconst 1, 1) := by decide +kernel
theorem dX4_lock_10 : decode cX4_lock 10 = .ok (.goto 32, 3) := by decide +kernel
theorem dX4_lock_13 : decode cX4_lock 13 = .ok (.iload_n 2, 1) := by decide +kernel
theorem dX4_lock_14 : decode cX4_lock 14 = .ok (.iconst (-1), 1) := by decide +kernel
theorem dX4_lock_15 : decode cX4_lock 15 = .ok (.bipush 7, 2) := by decide +kernel
theorem dX4_lock_17 : decode cX4_lock 17 = .ok (.invokestatic 78, 3) := by decide +kernel
theorem dX4_lock_20 : decode cX4_lock 20 = .ok (.ifCond .ne 7, 3) := by decide +kernel
theorem dX4_lock_23 : decode cX4_lock 23 = .ok (.iconst 2, 1) := by decide +kernel
theorem dX4_lock_24 : decode cX4_lock 24 = .ok (.goto 18, 3) := by decide +kernel
theorem dX4_lock_27 : decode cX4_lock 27 = .ok (.aload_n 0, 1) := by decide +kernel
theorem dX4_lock_28 : decode cX4_lock 28 = .ok (.getfield 7, 3) := by decide +kernel
theorem dX4_lock_31 : decode cX4_lock 31 = .ok (.iload_n 1, 1) := by decide +kernel
theorem dX4_lock_32 : decode cX4_lock 32 = .ok (.iaload, 1) := by decide +kernel
theorem dX4_lock_33 : decode cX4_lock 33 = .ok (.iconst 3, 1) := by decide +kernel
theorem dX4_lock_34 : decode cX4_lock 34 = .ok (.if_icmp .eq 7, 3) := by decide +kernel
theorem dX4_lock_37 : decode cX4_lock 37 = .ok (.iconst 3, 1) := by decide +kernel
theorem dX4_lock_38 : decode cX4_lock 38 = .ok (.goto 4, 3) := by decide +kernel
theorem dX4_lock_41 : decode cX4_lock 41 = .ok (.iconst 0, 1) := by decide +kernel
theorem dX4_lock_42 : decode cX4_lock 42 = .ok (.putfield 72, 3) := by decide +kernel
theorem dX4_lock_45 : decode cX4_lock 45 = .ok (.aload_n 0, 1) := by decide +kernel
theorem dX4_lock_46 : decode cX4_lock 46 = .ok (.getfield 72, 3) := by decide +kernel
theorem dX4_lock_49 : decode cX4_lock 49 = .ok (.ifCond .eq 5, 3) := by decide +kernel
theorem dX4_lock_52 : decode cX4_lock 52 = .ok (.iconst 0, 1) := by decide +kernel
theorem dX4_lock_53 : decode cX4_lock 53 = .ok (.ireturn, 1) := by decide +kernel
theorem dX4_lock_54 : decode cX4_lock 54 = .ok (.aload_n 0, 1) := by decide +kernel
theorem dX4_lock_55 : decode cX4_lock 55 = .ok (.getfield 28, 3) := by decide +kernel
theorem dX4_lock_58 : decode cX4_lock 58 = .ok (.iload_n 1, 1) := by decide +kernel
theorem dX4_lock_59 : decode cX4_lock 59 = .ok (.iaload, 1) := by decide +kernel
theorem dX4_lock_60 : decode cX4_lock 60 = .ok (.istore_n 3, 1) := by decide +kernel
theorem dX4_lock_61 : decode cX4_lock 61 = .ok (.aload_n 0, 1) := by decide +kernel
theorem dX4_lock_62 : decode cX4_lock 62 = .ok (.getfield 28, 3) := by decide +kernel
theorem dX4_lock_65 : decode cX4_lock 65 = .ok (.iload_n 1, 1) := by decide +kernel
theorem dX4_lock_66 : decode cX4_lock 66 = .ok (.iload_n 2, 1) := by decide +kernel
theorem dX4_lock_67 : decode cX4_lock 67 = .ok (.iastore, 1) := by decide +kernel
theorem dX4_lock_68 : decode cX4_lock 68 = .ok (.aload_n 0, 1) := by decide +kernel
theorem dX4_lock_69 : decode cX4_lock 69 = .ok (.getfield 31, 3) := by decide +kernel
theorem dX4_lock_72 : decode cX4_lock 72 = .ok (.iload_n 1, 1) := by decide +kernel
theorem dX4_lock_73 : decode cX4_lock 73 = .ok (.iconst 1, 1) := by decide +kernel
theorem dX4_lock_74 : decode cX4_lock 74 = .ok (.iastore, 1) := by decide +kernel
theorem dX4_lock_75 : decode cX4_lock 75 = .ok (.aload_n 0, 1) := by decide +kernel
theorem dX4_lock_76 : decode cX4_lock 76 = .ok (.getfield 34, 3) := by decide +kernel
theorem dX4_lock_79 : decode cX4_lock 79 = .ok (.iload_n 1, 1) := by decide +kernel
theorem dX4_lock_80 : decode cX4_lock 80 = .ok (.lconst 0, 1) := by decide +kernel
theorem dX4_lock_81 : decode cX4_lock 81 = .ok (.lastore, 1) := by decide +kernel
theorem dX4_lock_82 : decode cX4_lock 82 = .ok (.aload_n 0, 1) := by decide +kernel
theorem dX4_lock_83 : decode cX4_lock 83 = .ok (.getfield 38, 3) := by decide +kernel
theorem dX4_lock_86 : decode cX4_lock 86 = .ok (.iload_n 1, 1) := by decide +kernel
theorem dX4_lock_87 : decode cX4_lock 87 = .ok (.iconst 0, 1) := by decide +kernel
theorem dX4_lock_88 : decode cX4_lock 88 = .ok (.iastore, 1) := by decide +kernel
theorem dX4_lock_89 : decode cX4_lock 89 = .ok (.iload_n 3, 1) := by decide +kernel
theorem dX4_lock_90 : decode cX4_lock 90 = .ok (.ireturn, 1) := by decide +kernel
set_option maxRecDepth 20000 in
theorem ggX4_run_X4_in : GoodIn wsX4_run wsX4_in := goodIn_r _ [9] (by decide +kernel) (by decide +kernel)
set_option maxRecDepth 20000 in
theorem gX4_run_X4_in : GoodIn wsX4_run (va_wsS RX4 78 yX4_in wsX4_in) := goodIn_app (goodIn_of _ (by decide +kernel)) ggX4_run_X4_in
set_option maxRecDepth 20000 in
theorem ggX4_run_X4_goes : GoodIn wsX4_run wsX4_goes := goodIn_r _ [13, 14, 3, 15, 16, 1, 17, 18, 19, 8, 20, 4, 21, 22, 23, 24, 25, 26, 27, 28, 29, 30, 31, 32, 33, 34, 35, 36, 37, 38, 39, 40, 41, 42, 43, 44, 45, 5, 46, 47, 48, 49, 50, 51, 52, 53, 54, 55, 78, 79, 80, 81, 82, 83, 84, 85, 86, 87, 88, 89, 90, 91, 92, 93, 94, 95, 96, 97, 98, 99, 100, 101, 102] (by decide +kernel) (by decide +kernel)
set_option maxRecDepth 20000 in
theorem gX4_run_X4_goes : GoodIn wsX4_run (wsV RX4 154 RX4 yX4_goes wsX4_goes) := goodIn_app (goodIn_of _ (by decide +kernel)) ggX4_run_X4_goes
set_option maxRecDepth 20000 in
theorem ggX4_run_X4_warms : GoodIn wsX4_run wsX4_warms := goodIn_r _ [59, 55, 60, 61, 62, 8, 63, 22, 3, 4, 64, 65, 66, 67, 68, 69, 78, 79, 80, 81, 82, 83, 84, 85, 86, 87, 88, 89, 90, 91, 92, 93, 94, 95, 96, 97, 98, 99, 100, 101, 102] (by decide +kernel) (by decide +kernel)
set_option maxRecDepth 20000 in
theorem gX4_run_X4_warms : GoodIn wsX4_run (wsV RX4 158 RX4 yX4_warms wsX4_warms) := goodIn_app (goodIn_of _ (by decide +kernel)) ggX4_run_X4_warms
set_option maxRecDepth 20000 in
theorem ggX4_run_X4_hunts : GoodIn wsX4_run wsX4_hunts := goodIn_r _ [73, 74, 15, 75, 22, 76, 5, 77, 78, 79, 80, 81, 82, 83, 84, 85, 86, 87, 88, 89, 90, 91, 92, 93, 94, 95, 96, 97, 98, 99, 100, 101, 102] (by decide +kernel) (by decide +kernel)
set_option maxRecDepth 20000 in
theorem gX4_run_X4_hunts : GoodIn wsX4_run (wsV RX4 161 RX4 yX4_hunts wsX4_hunts) := goodIn_app (goodIn_of _ (by decide +kernel)) ggX4_run_X4_hunts
theorem dX4_run_0 : decode cX4_run 0 = .ok (.aload_n 0, 1) := by decide +kernel
theorem dX4_run_1 : decode cX4_run 1 = .ok (.iload_n 1, 1) := by decide +kernel
theorem dX4_run_2 : decode cX4_run 2 = .ok (.iconst 1, 1) := by decide +kernel
theorem dX4_run_3 : decode cX4_run 3 = .ok (.bipush 100, 2) := by decide +kernel
theorem dX4_run_5 : decode cX4_run 5 = .ok (.invokestatic 78, 3) := by decide +kernel
theorem dX4_run_8 : decode cX4_run 8 = .ok (.ifCond .ne 7, 3) := by decide +kernel
theorem dX4_run_11 : decode cX4_run 11 = .ok (.iconst 1, 1) := by decide +kernel
theorem dX4_run_12 : decode cX4_run 12 = .ok (.goto 22, 3) := by decide +kernel
theorem dX4_run_15 : decode cX4_run 15 = .ok (.aload_n 0, 1) := by decide +kernel
theorem dX4_run_16 : decode cX4_run 16 = .ok (.getfield 62, 3) := by decide +kernel
theorem dX4_run_19 : decode cX4_run 19 = .ok (.iconst 0, 1) := by decide +kernel
theorem dX4_run_20 : decode cX4_run 20 = .ok (.iaload, 1) := by decide +kernel
theorem dX4_run_21 : decode cX4_run 21 = .ok (.iload_n 1, 1) := by decide +kernel
theorem dX4_run_22 : decode cX4_run 22 = .ok (.iadd, 1) := by decide +kernel
theorem dX4_run_23 : decode cX4_run 23 = .ok (.sipush 20000, 3) := by decide +kernel
theorem dX4_run_26 : decode cX4_run 26 = .ok (.if_icmp .le 7, 3) := by decide +kernel
theorem dX4_run_29 : decode cX4_run 29 = .ok (.iconst 2, 1) := by decide +kernel
theorem dX4_run_30 : decode cX4_run 30 = .ok (.goto 4, 3) := by decide +kernel
theorem dX4_run_33 : decode cX4_run 33 = .ok (.iconst 0, 1) := by decide +kernel
theorem dX4_run_34 : decode cX4_run 34 = .ok (.putfield 72, 3) := by decide +kernel
theorem dX4_run_37 : decode cX4_run 37 = .ok (.aload_n 0, 1) := by decide +kernel
theorem dX4_run_38 : decode cX4_run 38 = .ok (.getfield 72, 3) := by decide +kernel
theorem dX4_run_41 : decode cX4_run 41 = .ok (.ifCond .eq 5, 3) := by decide +kernel
theorem dX4_run_44 : decode cX4_run 44 = .ok (.iconst 0, 1) := by decide +kernel
theorem dX4_run_45 : decode cX4_run 45 = .ok (.ireturn, 1) := by decide +kernel
theorem dX4_run_46 : decode cX4_run 46 = .ok (.iconst 0, 1) := by decide +kernel
theorem dX4_run_47 : decode cX4_run 47 = .ok (.istore_n 2, 1) := by decide +kernel
theorem dX4_run_48 : decode cX4_run 48 = .ok (.iload_n 2, 1) := by decide +kernel
theorem dX4_run_49 : decode cX4_run 49 = .ok (.iload_n 1, 1) := by decide +kernel
theorem dX4_run_50 : decode cX4_run 50 = .ok (.if_icmp .ge 75, 3) := by decide +kernel
theorem dX4_run_53 : decode cX4_run 53 = .ok (.aload_n 0, 1) := by decide +kernel
theorem dX4_run_54 : decode cX4_run 54 = .ok (.iconst 0, 1) := by decide +kernel
theorem dX4_run_55 : decode cX4_run 55 = .ok (.invokevirtual 154, 3) := by decide +kernel
theorem dX4_run_58 : decode cX4_run 58 = .ok (.iconst 0, 1) := by decide +kernel
theorem dX4_run_59 : decode cX4_run 59 = .ok (.istore_n 3, 1) := by decide +kernel
theorem dX4_run_60 : decode cX4_run 60 = .ok (.iload_n 3, 1) := by decide +kernel
theorem dX4_run_61 : decode cX4_run 61 = .ok (.aload_n 0, 1) := by decide +kernel
theorem dX4_run_62 : decode cX4_run 62 = .ok (.getfield 75, 3) := by decide +kernel
theorem dX4_run_65 : decode cX4_run 65 = .ok (.if_icmp .ge 24, 3) := by decide +kernel
theorem dX4_run_68 : decode cX4_run 68 = .ok (.aload_n 0, 1) := by decide +kernel
theorem dX4_run_69 : decode cX4_run 69 = .ok (.getfield 7, 3) := by decide +kernel
theorem dX4_run_72 : decode cX4_run 72 = .ok (.iload_n 3, 1) := by decide +kernel
theorem dX4_run_73 : decode cX4_run 73 = .ok (.iaload, 1) := by decide +kernel
theorem dX4_run_74 : decode cX4_run 74 = .ok (.iconst 3, 1) := by decide +kernel
theorem dX4_run_75 : decode cX4_run 75 = .ok (.if_icmp .ne 8, 3) := by decide +kernel
theorem dX4_run_78 : decode cX4_run 78 = .ok (.aload_n 0, 1) := by decide +kernel
theorem dX4_run_79 : decode cX4_run 79 = .ok (.iload_n 3, 1) := by decide +kernel
theorem dX4_run_80 : decode cX4_run 80 = .ok (.invokevirtual 158, 3) := by decide +kernel
theorem dX4_run_83 : decode cX4_run 83 = .ok (.iinc 3 1, 3) := by decide +kernel
theorem dX4_run_86 : decode cX4_run 86 = .ok (.goto (-26), 3) := by decide +kernel
theorem dX4_run_89 : decode cX4_run 89 = .ok (.iconst 0, 1) := by decide +kernel
theorem dX4_run_90 : decode cX4_run 90 = .ok (.istore_n 3, 1) := by decide +kernel
theorem dX4_run_91 : decode cX4_run 91 = .ok (.iload_n 3, 1) := by decide +kernel
theorem dX4_run_92 : decode cX4_run 92 = .ok (.aload_n 0, 1) := by decide +kernel
theorem dX4_run_93 : decode cX4_run 93 = .ok (.getfield 75, 3) := by decide +kernel
theorem dX4_run_96 : decode cX4_run 96 = .ok (.if_icmp .ge 23, 3) := by decide +kernel
theorem dX4_run_99 : decode cX4_run 99 = .ok (.aload_n 0, 1) := by decide +kernel
theorem dX4_run_100 : decode cX4_run 100 = .ok (.getfield 28, 3) := by decide +kernel
theorem dX4_run_103 : decode cX4_run 103 = .ok (.iload_n 3, 1) := by decide +kernel
theorem dX4_run_104 : decode cX4_run 104 = .ok (.iaload, 1) := by decide +kernel
theorem dX4_run_105 : decode cX4_run 105 = .ok (.ifCond .lt 8, 3) := by decide +kernel
theorem dX4_run_108 : decode cX4_run 108 = .ok (.aload_n 0, 1) := by decide +kernel
theorem dX4_run_109 : decode cX4_run 109 = .ok (.iload_n 3, 1) := by decide +kernel
theorem dX4_run_110 : decode cX4_run 110 = .ok (.invokevirtual 161, 3) := by decide +kernel
theorem dX4_run_113 : decode cX4_run 113 = .ok (.iinc 3 1, 3) := by decide +kernel
theorem dX4_run_116 : decode cX4_run 116 = .ok (.goto (-25), 3) := by decide +kernel
theorem dX4_run_119 : decode cX4_run 119 = .ok (.iinc 2 1, 3) := by decide +kernel
theorem dX4_run_122 : decode cX4_run 122 = .ok (.goto (-74), 3) := by decide +kernel
theorem dX4_run_125 : decode cX4_run 125 = .ok (.aload_n 0, 1) := by decide +kernel
theorem dX4_run_126 : decode cX4_run 126 = .ok (.getfield 62, 3) := by decide +kernel
theorem dX4_run_129 : decode cX4_run 129 = .ok (.iconst 0, 1) := by decide +kernel
theorem dX4_run_130 : decode cX4_run 130 = .ok (.iaload, 1) := by decide +kernel
theorem dX4_run_131 : decode cX4_run 131 = .ok (.ireturn, 1) := by decide +kernel
set_option maxRecDepth 20000 in
theorem ggX4_spacing_X4_in : GoodIn wsX4_spacing wsX4_in := goodIn_r _ [6] (by decide +kernel) (by decide +kernel)
set_option maxRecDepth 20000 in
theorem gX4_spacing_X4_in : GoodIn wsX4_spacing (va_wsS RX4 78 yX4_in wsX4_in) := goodIn_app (goodIn_of _ (by decide +kernel)) ggX4_spacing_X4_in
theorem dX4_spacing_0 : decode cX4_spacing 0 = .ok (.aload_n 0, 1) := by decide +kernel
theorem dX4_spacing_1 : decode cX4_spacing 1 = .ok (.iload_n 1, 1) := by decide +kernel
theorem dX4_spacing_2 : decode cX4_spacing 2 = .ok (.iconst 0, 1) := by decide +kernel
theorem dX4_spacing_3 : decode cX4_spacing 3 = .ok (.bipush 15, 2) := by decide +kernel
theorem dX4_spacing_5 : decode cX4_spacing 5 = .ok (.invokestatic 78, 3) := by decide +kernel
theorem dX4_spacing_8 : decode cX4_spacing 8 = .ok (.ifCond .eq 7, 3) := by decide +kernel
theorem dX4_spacing_11 : decode cX4_spacing 11 = .ok (.iconst 0, 1) := by decide +kernel
theorem dX4_spacing_12 : decode cX4_spacing 12 = .ok (.goto 4, 3) := by decide +kernel
theorem dX4_spacing_15 : decode cX4_spacing 15 = .ok (.iconst 1, 1) := by decide +kernel
theorem dX4_spacing_16 : decode cX4_spacing 16 = .ok (.putfield 72, 3) := by decide +kernel
theorem dX4_spacing_19 : decode cX4_spacing 19 = .ok (.aload_n 0, 1) := by decide +kernel
theorem dX4_spacing_20 : decode cX4_spacing 20 = .ok (.getfield 72, 3) := by decide +kernel
theorem dX4_spacing_23 : decode cX4_spacing 23 = .ok (.ifCond .eq 5, 3) := by decide +kernel
theorem dX4_spacing_26 : decode cX4_spacing 26 = .ok (.iconst 0, 1) := by decide +kernel
theorem dX4_spacing_27 : decode cX4_spacing 27 = .ok (.ireturn, 1) := by decide +kernel
theorem dX4_spacing_28 : decode cX4_spacing 28 = .ok (.aload_n 0, 1) := by decide +kernel
theorem dX4_spacing_29 : decode cX4_spacing 29 = .ok (.getfield 68, 3) := by decide +kernel
theorem dX4_spacing_32 : decode cX4_spacing 32 = .ok (.istore_n 2, 1) := by decide +kernel
theorem dX4_spacing_33 : decode cX4_spacing 33 = .ok (.aload_n 0, 1) := by decide +kernel
theorem dX4_spacing_34 : decode cX4_spacing 34 = .ok (.iload_n 1, 1) := by decide +kernel
theorem dX4_spacing_35 : decode cX4_spacing 35 = .ok (.putfield 68, 3) := by decide +kernel
theorem dX4_spacing_38 : decode cX4_spacing 38 = .ok (.iload_n 2, 1) := by decide +kernel
theorem dX4_spacing_39 : decode cX4_spacing 39 = .ok (.ireturn, 1) := by decide +kernel
set_option maxRecDepth 20000 in
theorem ggX4_conflicts_X4_distance : GoodIn wsX4_conflicts wsX4_distance := goodIn_r _ [8, 9, 10, 11, 12, 13, 14, 15, 16, 17, 18, 19, 20, 21, 22, 23, 24, 25, 26, 27, 28, 29, 30, 31, 32, 33, 34, 35] (by decide +kernel) (by decide +kernel)
set_option maxRecDepth 20000 in
theorem gX4_conflicts_X4_distance : GoodIn wsX4_conflicts (wsV RX4 82 RX4 yX4_distance wsX4_distance) := goodIn_app (goodIn_of _ (by decide +kernel)) ggX4_conflicts_X4_distance
theorem dX4_conflicts_0 : decode cX4_conflicts 0 = .ok (.aload_n 0, 1) := by decide +kernel
theorem dX4_conflicts_1 : decode cX4_conflicts 1 = .ok (.iconst 0, 1) := by decide +kernel
theorem dX4_conflicts_2 : decode cX4_conflicts 2 = .ok (.putfield 72, 3) := by decide +kernel
theorem dX4_conflicts_5 : decode cX4_conflicts 5 = .ok (.iconst 0, 1) := by decide +kernel
theorem dX4_conflicts_6 : decode cX4_conflicts 6 = .ok (.istore_n 1, 1) := by decide +kernel
theorem dX4_conflicts_7 : decode cX4_conflicts 7 = .ok (.iconst 0, 1) := by decide +kernel
theorem dX4_conflicts_8 : decode cX4_conflicts 8 = .ok (.istore_n 2, 1) := by decide +kernel
theorem dX4_conflicts_9 : decode cX4_conflicts 9 = .ok (.iload_n 2, 1) := by decide +kernel
theorem dX4_conflicts_10 : decode cX4_conflicts 10 = .ok (.aload_n 0, 1) := by decide +kernel
theorem dX4_conflicts_11 : decode cX4_conflicts 11 = .ok (.getfield 75, 3) := by decide +kernel
theorem dX4_conflicts_14 : decode cX4_conflicts 14 = .ok (.if_icmp .ge 43, 3) := by decide +kernel
theorem dX4_conflicts_17 : decode cX4_conflicts 17 = .ok (.iconst 0, 1) := by decide +kernel
theorem dX4_conflicts_18 : decode cX4_conflicts 18 = .ok (.istore_n 3, 1) := by decide +kernel
theorem dX4_conflicts_19 : decode cX4_conflicts 19 = .ok (.iload_n 3, 1) := by decide +kernel
theorem dX4_conflicts_20 : decode cX4_conflicts 20 = .ok (.iload_n 2, 1) := by decide +kernel
theorem dX4_conflicts_21 : decode cX4_conflicts 21 = .ok (.if_icmp .ge 30, 3) := by decide +kernel
theorem dX4_conflicts_24 : decode cX4_conflicts 24 = .ok (.iload_n 1, 1) := by decide +kernel
theorem dX4_conflicts_25 : decode cX4_conflicts 25 = .ok (.aload_n 0, 1) := by decide +kernel
theorem dX4_conflicts_26 : decode cX4_conflicts 26 = .ok (.iload_n 2, 1) := by decide +kernel
theorem dX4_conflicts_27 : decode cX4_conflicts 27 = .ok (.iload_n 3, 1) := by decide +kernel
theorem dX4_conflicts_28 : decode cX4_conflicts 28 = .ok (.invokevirtual 82, 3) := by decide +kernel
theorem dX4_conflicts_31 : decode cX4_conflicts 31 = .ok (.aload_n 0, 1) := by decide +kernel
theorem dX4_conflicts_32 : decode cX4_conflicts 32 = .ok (.getfield 68, 3) := by decide +kernel
theorem dX4_conflicts_35 : decode cX4_conflicts 35 = .ok (.if_icmp .ge 7, 3) := by decide +kernel
theorem dX4_conflicts_38 : decode cX4_conflicts 38 = .ok (.iconst 1, 1) := by decide +kernel
theorem dX4_conflicts_39 : decode cX4_conflicts 39 = .ok (.goto 4, 3) := by decide +kernel
theorem dX4_conflicts_42 : decode cX4_conflicts 42 = .ok (.iconst 0, 1) := by decide +kernel
theorem dX4_conflicts_43 : decode cX4_conflicts 43 = .ok (.iadd, 1) := by decide +kernel
theorem dX4_conflicts_44 : decode cX4_conflicts 44 = .ok (.istore_n 1, 1) := by decide +kernel
theorem dX4_conflicts_45 : decode cX4_conflicts 45 = .ok (.iinc 3 1, 3) := by decide +kernel
theorem dX4_conflicts_48 : decode cX4_conflicts 48 = .ok (.goto (-29), 3) := by decide +kernel
theorem dX4_conflicts_51 : decode cX4_conflicts 51 = .ok (.iinc 2 1, 3) := by decide +kernel
theorem dX4_conflicts_54 : decode cX4_conflicts 54 = .ok (.goto (-45), 3) := by decide +kernel
theorem dX4_conflicts_57 : decode cX4_conflicts 57 = .ok (.iload_n 1, 1) := by decide +kernel
theorem dX4_conflicts_58 : decode cX4_conflicts 58 = .ok (.ireturn, 1) := by decide +kernel
theorem dX4_sees_0 : decode cX4_sees 0 = .ok (.lconst 0, 1) := by decide +kernel
theorem dX4_sees_1 : decode cX4_sees 1 = .ok (.lstore_n 3, 1) := by decide +kernel
theorem dX4_sees_2 : decode cX4_sees 2 = .ok (.iconst 0, 1) := by decide +kernel
theorem dX4_sees_3 : decode cX4_sees 3 = .ok (.istore 5, 2) := by decide +kernel
theorem dX4_sees_5 : decode cX4_sees 5 = .ok (.iload 5, 2) := by decide +kernel
theorem dX4_sees_7 : decode cX4_sees 7 = .ok (.bipush 8, 2) := by decide +kernel
theorem dX4_sees_9 : decode cX4_sees 9 = .ok (.if_icmp .ge 30, 3) := by decide +kernel
theorem dX4_sees_12 : decode cX4_sees 12 = .ok (.lload_n 3, 1) := by decide +kernel
theorem dX4_sees_13 : decode cX4_sees 13 = .ok (.aload_n 0, 1) := by decide +kernel
theorem dX4_sees_14 : decode cX4_sees 14 = .ok (.getfield 56, 3) := by decide +kernel
theorem dX4_sees_17 : decode cX4_sees 17 = .ok (.sipush 128, 3) := by decide +kernel
theorem dX4_sees_20 : decode cX4_sees 20 = .ok (.iload_n 1, 1) := by decide +kernel
theorem dX4_sees_21 : decode cX4_sees 21 = .ok (.imul, 1) := by decide +kernel
theorem dX4_sees_22 : decode cX4_sees 22 = .ok (.bipush 8, 2) := by decide +kernel
theorem dX4_sees_24 : decode cX4_sees 24 = .ok (.iload_n 2, 1) := by decide +kernel
theorem dX4_sees_25 : decode cX4_sees 25 = .ok (.imul, 1) := by decide +kernel
theorem dX4_sees_26 : decode cX4_sees 26 = .ok (.iadd, 1) := by decide +kernel
theorem dX4_sees_27 : decode cX4_sees 27 = .ok (.iload 5, 2) := by decide +kernel
theorem dX4_sees_29 : decode cX4_sees 29 = .ok (.iadd, 1) := by decide +kernel
theorem dX4_sees_30 : decode cX4_sees 30 = .ok (.laload, 1) := by decide +kernel
theorem dX4_sees_31 : decode cX4_sees 31 = .ok (.ladd, 1) := by decide +kernel
theorem dX4_sees_32 : decode cX4_sees 32 = .ok (.lstore_n 3, 1) := by decide +kernel
theorem dX4_sees_33 : decode cX4_sees 33 = .ok (.iinc 5 1, 3) := by decide +kernel
theorem dX4_sees_36 : decode cX4_sees 36 = .ok (.goto (-31), 3) := by decide +kernel
theorem dX4_sees_39 : decode cX4_sees 39 = .ok (.lload_n 3, 1) := by decide +kernel
theorem dX4_sees_40 : decode cX4_sees 40 = .ok (.lreturn, 1) := by decide +kernel
set_option maxRecDepth 20000 in
theorem ggX4_tries_X4_target : GoodIn wsX4_tries wsX4_target := goodIn_r _ [13, 14, 4, 6, 15, 16, 17, 12, 18, 19, 20, 66, 67, 68, 69, 70, 71, 72, 73, 74, 75, 76, 77, 78, 79, 80, 81, 82, 83, 84, 85, 86, 87, 88, 89, 90] (by decide +kernel) (by decide +kernel)
set_option maxRecDepth 20000 in
theorem gX4_tries_X4_target : GoodIn wsX4_tries (wsV RX4 124 RX4 yX4_target wsX4_target) := goodIn_app (goodIn_of _ (by decide +kernel)) ggX4_tries_X4_target
set_option maxRecDepth 20000 in
theorem ggX4_tries_X4_goes : GoodIn wsX4_tries wsX4_goes := goodIn_r _ [24, 25, 4, 26, 2, 7, 27, 28, 29, 12, 30, 6, 31, 14, 32, 3, 33, 34, 35, 36, 37, 38, 39, 40, 41, 42, 43, 1, 44, 45, 46, 47, 48, 49, 50, 51, 52, 53, 54, 55, 56, 57, 58, 59, 60, 61, 8, 5, 66, 67, 68, 69, 70, 71, 72, 73, 74, 75, 76, 77, 78, 79, 80, 81, 82, 83, 84, 85, 86, 87, 88, 89, 90] (by decide +kernel) (by decide +kernel)
set_option maxRecDepth 20000 in
theorem gX4_tries_X4_goes : GoodIn wsX4_tries (wsV RX4 154 RX4 yX4_goes wsX4_goes) := goodIn_app (goodIn_of _ (by decide +kernel)) ggX4_tries_X4_goes
set_option maxRecDepth 20000 in
theorem ggX4_tries_X4_sees : GoodIn wsX4_tries wsX4_sees := goodIn_r _ [65, 3, 66, 67, 68, 69, 70, 71, 72, 73, 74, 75, 76, 77, 78, 79, 80, 81, 82, 83, 84, 85, 86, 87, 88, 89, 90] (by decide +kernel) (by decide +kernel)
set_option maxRecDepth 20000 in
theorem gX4_tries_X4_sees : GoodIn wsX4_tries (wsV RX4 164 RX4 yX4_sees wsX4_sees) := goodIn_app (goodIn_of _ (by decide +kernel)) ggX4_tries_X4_sees
theorem dX4_tries_0 : decode cX4_tries 0 = .ok (.iconst 0, 1) := by decide +kernel
theorem dX4_tries_1 : decode cX4_tries 1 = .ok (.istore 4, 2) := by decide +kernel
theorem dX4_tries_3 : decode cX4_tries 3 = .ok (.iload 4, 2) := by decide +kernel
theorem dX4_tries_5 : decode cX4_tries 5 = .ok (.sipush 1024, 3) := by decide +kernel
theorem dX4_tries_8 : decode cX4_tries 8 = .ok (.if_icmp .ge 53, 3) := by decide +kernel
theorem dX4_tries_11 : decode cX4_tries 11 = .ok (.aload_n 0, 1) := by decide +kernel
theorem dX4_tries_12 : decode cX4_tries 12 = .ok (.getfield 53, 3) := by decide +kernel
theorem dX4_tries_15 : decode cX4_tries 15 = .ok (.sipush 1024, 3) := by decide +kernel
theorem dX4_tries_18 : decode cX4_tries 18 = .ok (.iload 4, 2) := by decide +kernel
theorem dX4_tries_20 : decode cX4_tries 20 = .ok (.iadd, 1) := by decide +kernel
theorem dX4_tries_21 : decode cX4_tries 21 = .ok (.lconst 0, 1) := by decide +kernel
theorem dX4_tries_22 : decode cX4_tries 22 = .ok (.lastore, 1) := by decide +kernel
theorem dX4_tries_23 : decode cX4_tries 23 = .ok (.aload_n 0, 1) := by decide +kernel
theorem dX4_tries_24 : decode cX4_tries 24 = .ok (.getfield 47, 3) := by decide +kernel
theorem dX4_tries_27 : decode cX4_tries 27 = .ok (.sipush 256, 3) := by decide +kernel
theorem dX4_tries_30 : decode cX4_tries 30 = .ok (.iload 4, 2) := by decide +kernel
theorem dX4_tries_32 : decode cX4_tries 32 = .ok (.sipush 256, 3) := by decide +kernel
theorem dX4_tries_35 : decode cX4_tries 35 = .ok (.irem, 1) := by decide +kernel
theorem dX4_tries_36 : decode cX4_tries 36 = .ok (.iadd, 1) := by decide +kernel
theorem dX4_tries_37 : decode cX4_tries 37 = .ok (.lconst 0, 1) := by decide +kernel
theorem dX4_tries_38 : decode cX4_tries 38 = .ok (.lastore, 1) := by decide +kernel
theorem dX4_tries_39 : decode cX4_tries 39 = .ok (.aload_n 0, 1) := by decide +kernel
theorem dX4_tries_40 : decode cX4_tries 40 = .ok (.getfield 56, 3) := by decide +kernel
theorem dX4_tries_43 : decode cX4_tries 43 = .ok (.sipush 128, 3) := by decide +kernel
theorem dX4_tries_46 : decode cX4_tries 46 = .ok (.iload 4, 2) := by decide +kernel
theorem dX4_tries_48 : decode cX4_tries 48 = .ok (.sipush 128, 3) := by decide +kernel
theorem dX4_tries_51 : decode cX4_tries 51 = .ok (.irem, 1) := by decide +kernel
theorem dX4_tries_52 : decode cX4_tries 52 = .ok (.iadd, 1) := by decide +kernel
theorem dX4_tries_53 : decode cX4_tries 53 = .ok (.lconst 0, 1) := by decide +kernel
theorem dX4_tries_54 : decode cX4_tries 54 = .ok (.lastore, 1) := by decide +kernel
theorem dX4_tries_55 : decode cX4_tries 55 = .ok (.iinc 4 1, 3) := by decide +kernel
theorem dX4_tries_58 : decode cX4_tries 58 = .ok (.goto (-55), 3) := by decide +kernel
theorem dX4_tries_61 : decode cX4_tries 61 = .ok (.iconst 0, 1) := by decide +kernel
theorem dX4_tries_62 : decode cX4_tries 62 = .ok (.istore 4, 2) := by decide +kernel
theorem dX4_tries_64 : decode cX4_tries 64 = .ok (.iload 4, 2) := by decide +kernel
theorem dX4_tries_66 : decode cX4_tries 66 = .ok (.aload_n 0, 1) := by decide +kernel
theorem dX4_tries_67 : decode cX4_tries 67 = .ok (.getfield 75, 3) := by decide +kernel
theorem dX4_tries_70 : decode cX4_tries 70 = .ok (.if_icmp .ge 40, 3) := by decide +kernel
theorem dX4_tries_73 : decode cX4_tries 73 = .ok (.aload_n 0, 1) := by decide +kernel
theorem dX4_tries_74 : decode cX4_tries 74 = .ok (.getfield 59, 3) := by decide +kernel
theorem dX4_tries_77 : decode cX4_tries 77 = .ok (.bipush 16, 2) := by decide +kernel
theorem dX4_tries_79 : decode cX4_tries 79 = .ok (.iload 4, 2) := by decide +kernel
theorem dX4_tries_81 : decode cX4_tries 81 = .ok (.iadd, 1) := by decide +kernel
theorem dX4_tries_82 : decode cX4_tries 82 = .ok (.aload_n 0, 1) := by decide +kernel
theorem dX4_tries_83 : decode cX4_tries 83 = .ok (.getfield 7, 3) := by decide +kernel
theorem dX4_tries_86 : decode cX4_tries 86 = .ok (.iload 4, 2) := by decide +kernel
theorem dX4_tries_88 : decode cX4_tries 88 = .ok (.iaload, 1) := by decide +kernel
theorem dX4_tries_89 : decode cX4_tries 89 = .ok (.iconst 3, 1) := by decide +kernel
theorem dX4_tries_90 : decode cX4_tries 90 = .ok (.if_icmp .ne 12, 3) := by decide +kernel
theorem dX4_tries_93 : decode cX4_tries 93 = .ok (.aload_n 0, 1) := by decide +kernel
theorem dX4_tries_94 : decode cX4_tries 94 = .ok (.iload 4, 2) := by decide +kernel
theorem dX4_tries_96 : decode cX4_tries 96 = .ok (.invokevirtual 124, 3) := by decide +kernel
theorem dX4_tries_99 : decode cX4_tries 99 = .ok (.goto 4, 3) := by decide +kernel
theorem dX4_tries_102 : decode cX4_tries 102 = .ok (.iconst 0, 1) := by decide +kernel
theorem dX4_tries_103 : decode cX4_tries 103 = .ok (.iastore, 1) := by decide +kernel
theorem dX4_tries_104 : decode cX4_tries 104 = .ok (.iinc 4 1, 3) := by decide +kernel
theorem dX4_tries_107 : decode cX4_tries 107 = .ok (.goto (-43), 3) := by decide +kernel
theorem dX4_tries_110 : decode cX4_tries 110 = .ok (.aload_n 0, 1) := by decide +kernel
theorem dX4_tries_111 : decode cX4_tries 111 = .ok (.getfield 62, 3) := by decide +kernel
theorem dX4_tries_114 : decode cX4_tries 114 = .ok (.iconst 1, 1) := by decide +kernel
theorem dX4_tries_115 : decode cX4_tries 115 = .ok (.iconst 0, 1) := by decide +kernel
theorem dX4_tries_116 : decode cX4_tries 116 = .ok (.iastore, 1) := by decide +kernel
theorem dX4_tries_117 : decode cX4_tries 117 = .ok (.aload_n 0, 1) := by decide +kernel
theorem dX4_tries_118 : decode cX4_tries 118 = .ok (.getfield 65, 3) := by decide +kernel
theorem dX4_tries_121 : decode cX4_tries 121 = .ok (.iconst 1, 1) := by decide +kernel
theorem dX4_tries_122 : decode cX4_tries 122 = .ok (.iload_n 2, 1) := by decide +kernel
theorem dX4_tries_123 : decode cX4_tries 123 = .ok (.iastore, 1) := by decide +kernel
theorem dX4_tries_124 : decode cX4_tries 124 = .ok (.iconst 0, 1) := by decide +kernel
theorem dX4_tries_125 : decode cX4_tries 125 = .ok (.istore 4, 2) := by decide +kernel
theorem dX4_tries_127 : decode cX4_tries 127 = .ok (.iload 4, 2) := by decide +kernel
theorem dX4_tries_129 : decode cX4_tries 129 = .ok (.iload_n 3, 1) := by decide +kernel
theorem dX4_tries_130 : decode cX4_tries 130 = .ok (.if_icmp .ge 14, 3) := by decide +kernel
theorem dX4_tries_133 : decode cX4_tries 133 = .ok (.aload_n 0, 1) := by decide +kernel
theorem dX4_tries_134 : decode cX4_tries 134 = .ok (.iconst 1, 1) := by decide +kernel
theorem dX4_tries_135 : decode cX4_tries 135 = .ok (.invokevirtual 154, 3) := by decide +kernel
theorem dX4_tries_138 : decode cX4_tries 138 = .ok (.iinc 4 1, 3) := by decide +kernel
theorem dX4_tries_141 : decode cX4_tries 141 = .ok (.goto (-14), 3) := by decide +kernel
theorem dX4_tries_144 : decode cX4_tries 144 = .ok (.aload_n 0, 1) := by decide +kernel
theorem dX4_tries_145 : decode cX4_tries 145 = .ok (.iconst 1, 1) := by decide +kernel
theorem dX4_tries_146 : decode cX4_tries 146 = .ok (.iload_n 1, 1) := by decide +kernel
theorem dX4_tries_147 : decode cX4_tries 147 = .ok (.invokevirtual 164, 3) := by decide +kernel
theorem dX4_tries_150 : decode cX4_tries 150 = .ok (.lreturn, 1) := by decide +kernel
set_option maxRecDepth 20000 in
theorem ggX4_trial_X4_isPart : GoodIn wsX4_trial wsX4_isPart := goodIn_r _ [7, 8, 9, 10, 6, 11, 78, 79, 80, 81, 82, 83, 84, 85, 86, 87, 88, 89, 90, 91, 92, 93, 94, 95, 96, 97, 98, 99, 100, 101, 102] (by decide +kernel) (by decide +kernel)
set_option maxRecDepth 20000 in
theorem gX4_trial_X4_isPart : GoodIn wsX4_trial (wsV RX4 135 RX4 yX4_isPart wsX4_isPart) := goodIn_app (goodIn_of _ (by decide +kernel)) ggX4_trial_X4_isPart
set_option maxRecDepth 20000 in
theorem ggX4_trial_X4_in : GoodIn wsX4_trial wsX4_in := goodIn_r _ [11] (by decide +kernel) (by decide +kernel)
set_option maxRecDepth 20000 in
theorem gX4_trial_X4_in : GoodIn wsX4_trial (va_wsS RX4 78 yX4_in wsX4_in) := goodIn_app (goodIn_of _ (by decide +kernel)) ggX4_trial_X4_in
set_option maxRecDepth 20000 in
theorem ggX4_trial_X4_tries : GoodIn wsX4_trial wsX4_tries := goodIn_r _ [15, 16, 17, 18, 8, 19, 1, 20, 21, 22, 23, 24, 6, 25, 26, 27, 28, 29, 30, 31, 32, 33, 34, 35, 36, 37, 38, 39, 40, 41, 42, 43, 44, 45, 46, 47, 48, 49, 50, 51, 52, 53, 54, 55, 56, 57, 58, 59, 60, 61, 62, 63, 64, 65, 66, 67, 68, 69, 70, 71, 72, 73, 74, 75, 76, 77, 78, 79, 80, 81, 82, 83, 84, 85, 86, 87, 88, 89, 90, 91, 92, 93, 94, 95, 96, 97, 98, 99, 100, 101, 102] (by decide +kernel) (by decide +kernel)
set_option maxRecDepth 20000 in
theorem gX4_trial_X4_tries : GoodIn wsX4_trial (wsV RX4 168 RX4 yX4_tries wsX4_tries) := goodIn_app (goodIn_of _ (by decide +kernel)) ggX4_trial_X4_tries
theorem dX4_trial_0 : decode cX4_trial 0 = .ok (.aload_n 0, 1) := by decide +kernel
theorem dX4_trial_1 : decode cX4_trial 1 = .ok (.aload_n 0, 1) := by decide +kernel
theorem dX4_trial_2 : decode cX4_trial 2 = .ok (.iload_n 1, 1) := by decide +kernel
theorem dX4_trial_3 : decode cX4_trial 3 = .ok (.invokevirtual 135, 3) := by decide +kernel
theorem dX4_trial_6 : decode cX4_trial 6 = .ok (.ifCond .ne 7, 3) := by decide +kernel
theorem dX4_trial_9 : decode cX4_trial 9 = .ok (.iconst 1, 1) := by decide +kernel
theorem dX4_trial_10 : decode cX4_trial 10 = .ok (.goto 43, 3) := by decide +kernel
theorem dX4_trial_13 : decode cX4_trial 13 = .ok (.iload_n 2, 1) := by decide +kernel
theorem dX4_trial_14 : decode cX4_trial 14 = .ok (.bipush (-8), 2) := by decide +kernel
theorem dX4_trial_16 : decode cX4_trial 16 = .ok (.bipush 8, 2) := by decide +kernel
theorem dX4_trial_18 : decode cX4_trial 18 = .ok (.invokestatic 78, 3) := by decide +kernel
theorem dX4_trial_21 : decode cX4_trial 21 = .ok (.ifCond .eq 13, 3) := by decide +kernel
theorem dX4_trial_24 : decode cX4_trial 24 = .ok (.iload_n 3, 1) := by decide +kernel
theorem dX4_trial_25 : decode cX4_trial 25 = .ok (.iconst 1, 1) := by decide +kernel
theorem dX4_trial_26 : decode cX4_trial 26 = .ok (.bipush 100, 2) := by decide +kernel
theorem dX4_trial_28 : decode cX4_trial 28 = .ok (.invokestatic 78, 3) := by decide +kernel
theorem dX4_trial_31 : decode cX4_trial 31 = .ok (.ifCond .ne 7, 3) := by decide +kernel
theorem dX4_trial_34 : decode cX4_trial 34 = .ok (.iconst 2, 1) := by decide +kernel
theorem dX4_trial_35 : decode cX4_trial 35 = .ok (.goto 18, 3) := by decide +kernel
theorem dX4_trial_38 : decode cX4_trial 38 = .ok (.aload_n 0, 1) := by decide +kernel
theorem dX4_trial_39 : decode cX4_trial 39 = .ok (.getfield 7, 3) := by decide +kernel
theorem dX4_trial_42 : decode cX4_trial 42 = .ok (.iload_n 1, 1) := by decide +kernel
theorem dX4_trial_43 : decode cX4_trial 43 = .ok (.iaload, 1) := by decide +kernel
theorem dX4_trial_44 : decode cX4_trial 44 = .ok (.iconst 5, 1) := by decide +kernel
theorem dX4_trial_45 : decode cX4_trial 45 = .ok (.if_icmp .eq 7, 3) := by decide +kernel
theorem dX4_trial_48 : decode cX4_trial 48 = .ok (.iconst 3, 1) := by decide +kernel
theorem dX4_trial_49 : decode cX4_trial 49 = .ok (.goto 4, 3) := by decide +kernel
theorem dX4_trial_52 : decode cX4_trial 52 = .ok (.iconst 0, 1) := by decide +kernel
theorem dX4_trial_53 : decode cX4_trial 53 = .ok (.putfield 72, 3) := by decide +kernel
theorem dX4_trial_56 : decode cX4_trial 56 = .ok (.aload_n 0, 1) := by decide +kernel
theorem dX4_trial_57 : decode cX4_trial 57 = .ok (.getfield 72, 3) := by decide +kernel
theorem dX4_trial_60 : decode cX4_trial 60 = .ok (.ifCond .eq 7, 3) := by decide +kernel
theorem dX4_trial_63 : decode cX4_trial 63 = .ok (.lconst 0, 1) := by decide +kernel
theorem dX4_trial_64 : decode cX4_trial 64 = .ok (.goto 10, 3) := by decide +kernel
theorem dX4_trial_67 : decode cX4_trial 67 = .ok (.aload_n 0, 1) := by decide +kernel
theorem dX4_trial_68 : decode cX4_trial 68 = .ok (.iload_n 1, 1) := by decide +kernel
theorem dX4_trial_69 : decode cX4_trial 69 = .ok (.iload_n 2, 1) := by decide +kernel
theorem dX4_trial_70 : decode cX4_trial 70 = .ok (.iload_n 3, 1) := by decide +kernel
theorem dX4_trial_71 : decode cX4_trial 71 = .ok (.invokevirtual 168, 3) := by decide +kernel
theorem dX4_trial_74 : decode cX4_trial 74 = .ok (.lreturn, 1) := by decide +kernel
set_option maxRecDepth 20000 in
theorem ggX4_yields_X4_isPart : GoodIn wsX4_yields wsX4_isPart := goodIn_r _ [7, 8, 9, 10, 6, 11, 78, 79, 80, 81, 82, 83, 84, 85, 86, 87, 88, 89, 90, 91, 92, 93, 94, 95, 96, 97, 98, 99, 100, 101, 102] (by decide +kernel) (by decide +kernel)
set_option maxRecDepth 20000 in
theorem gX4_yields_X4_isPart : GoodIn wsX4_yields (wsV RX4 135 RX4 yX4_isPart wsX4_isPart) := goodIn_app (goodIn_of _ (by decide +kernel)) ggX4_yields_X4_isPart
set_option maxRecDepth 20000 in
theorem ggX4_yields_X4_in : GoodIn wsX4_yields wsX4_in := goodIn_r _ [11] (by decide +kernel) (by decide +kernel)
set_option maxRecDepth 20000 in
theorem gX4_yields_X4_in : GoodIn wsX4_yields (va_wsS RX4 78 yX4_in wsX4_in) := goodIn_app (goodIn_of _ (by decide +kernel)) ggX4_yields_X4_in
set_option maxRecDepth 20000 in
theorem ggX4_yields_X4_tries : GoodIn wsX4_yields wsX4_tries := goodIn_r _ [15, 16, 17, 18, 8, 19, 1, 20, 21, 22, 23, 24, 6, 25, 26, 27, 28, 29, 30, 31, 32, 33, 34, 35, 36, 37, 38, 39, 40, 41, 42, 43, 44, 45, 46, 47, 48, 49, 50, 51, 52, 53, 54, 55, 56, 57, 58, 59, 60, 61, 62, 63, 64, 65, 66, 67, 68, 69, 70, 71, 72, 73, 74, 75, 76, 77, 78, 79, 80, 81, 82, 83, 84, 85, 86, 87, 88, 89, 90, 91, 92, 93, 94, 95, 96, 97, 98, 99, 100, 101, 102] (by decide +kernel) (by decide +kernel)
set_option maxRecDepth 20000 in
theorem gX4_yields_X4_tries : GoodIn wsX4_yields (wsV RX4 168 RX4 yX4_tries wsX4_tries) := goodIn_app (goodIn_of _ (by decide +kernel)) ggX4_yields_X4_tries
theorem dX4_yields_0 : decode cX4_yields 0 = .ok (.aload_n 0, 1) := by decide +kernel
theorem dX4_yields_1 : decode cX4_yields 1 = .ok (.aload_n 0, 1) := by decide +kernel
theorem dX4_yields_2 : decode cX4_yields 2 = .ok (.iload_n 1, 1) := by decide +kernel
theorem dX4_yields_3 : decode cX4_yields 3 = .ok (.invokevirtual 135, 3) := by decide +kernel
theorem dX4_yields_6 : decode cX4_yields 6 = .ok (.ifCond .ne 7, 3) := by decide +kernel
theorem dX4_yields_9 : decode cX4_yields 9 = .ok (.iconst 1, 1) := by decide +kernel
theorem dX4_yields_10 : decode cX4_yields 10 = .ok (.goto 38, 3) := by decide +kernel
theorem dX4_yields_13 : decode cX4_yields 13 = .ok (.iload_n 2, 1) := by decide +kernel
theorem dX4_yields_14 : decode cX4_yields 14 = .ok (.iconst 1, 1) := by decide +kernel
theorem dX4_yields_15 : decode cX4_yields 15 = .ok (.bipush 100, 2) := by decide +kernel
theorem dX4_yields_17 : decode cX4_yields 17 = .ok (.invokestatic 78, 3) := by decide +kernel
theorem dX4_yields_20 : decode cX4_yields 20 = .ok (.ifCond .eq 9, 3) := by decide +kernel
theorem dX4_yields_23 : decode cX4_yields 23 = .ok (.lload_n 3, 1) := by decide +kernel
theorem dX4_yields_24 : decode cX4_yields 24 = .ok (.lconst 0, 1) := by decide +kernel
theorem dX4_yields_25 : decode cX4_yields 25 = .ok (.lcmp, 1) := by decide +kernel
theorem dX4_yields_26 : decode cX4_yields 26 = .ok (.ifCond .ge 7, 3) := by decide +kernel
theorem dX4_yields_29 : decode cX4_yields 29 = .ok (.iconst 2, 1) := by decide +kernel
theorem dX4_yields_30 : decode cX4_yields 30 = .ok (.goto 18, 3) := by decide +kernel
theorem dX4_yields_33 : decode cX4_yields 33 = .ok (.aload_n 0, 1) := by decide +kernel
theorem dX4_yields_34 : decode cX4_yields 34 = .ok (.getfield 7, 3) := by decide +kernel
theorem dX4_yields_37 : decode cX4_yields 37 = .ok (.iload_n 1, 1) := by decide +kernel
theorem dX4_yields_38 : decode cX4_yields 38 = .ok (.iaload, 1) := by decide +kernel
theorem dX4_yields_39 : decode cX4_yields 39 = .ok (.iconst 5, 1) := by decide +kernel
theorem dX4_yields_40 : decode cX4_yields 40 = .ok (.if_icmp .eq 7, 3) := by decide +kernel
theorem dX4_yields_43 : decode cX4_yields 43 = .ok (.iconst 3, 1) := by decide +kernel
theorem dX4_yields_44 : decode cX4_yields 44 = .ok (.goto 4, 3) := by decide +kernel
theorem dX4_yields_47 : decode cX4_yields 47 = .ok (.iconst 0, 1) := by decide +kernel
theorem dX4_yields_48 : decode cX4_yields 48 = .ok (.putfield 72, 3) := by decide +kernel
theorem dX4_yields_51 : decode cX4_yields 51 = .ok (.iconst 0, 1) := by decide +kernel
theorem dX4_yields_52 : decode cX4_yields 52 = .ok (.istore 5, 2) := by decide +kernel
theorem dX4_yields_54 : decode cX4_yields 54 = .ok (.iconst 0, 1) := by decide +kernel
theorem dX4_yields_55 : decode cX4_yields 55 = .ok (.istore 6, 2) := by decide +kernel
theorem dX4_yields_57 : decode cX4_yields 57 = .ok (.iload 6, 2) := by decide +kernel
theorem dX4_yields_59 : decode cX4_yields 59 = .ok (.bipush 8, 2) := by decide +kernel
theorem dX4_yields_61 : decode cX4_yields 61 = .ok (.if_icmp .ge 39, 3) := by decide +kernel
theorem dX4_yields_64 : decode cX4_yields 64 = .ok (.aload_n 0, 1) := by decide +kernel
theorem dX4_yields_65 : decode cX4_yields 65 = .ok (.getfield 72, 3) := by decide +kernel
theorem dX4_yields_68 : decode cX4_yields 68 = .ok (.ifCond .ne 32, 3) := by decide +kernel
theorem dX4_yields_71 : decode cX4_yields 71 = .ok (.iload 5, 2) := by decide +kernel
theorem dX4_yields_73 : decode cX4_yields 73 = .ok (.aload_n 0, 1) := by decide +kernel
theorem dX4_yields_74 : decode cX4_yields 74 = .ok (.iload_n 1, 1) := by decide +kernel
theorem dX4_yields_75 : decode cX4_yields 75 = .ok (.iload 6, 2) := by decide +kernel
theorem dX4_yields_77 : decode cX4_yields 77 = .ok (.iload_n 2, 1) := by decide +kernel
theorem dX4_yields_78 : decode cX4_yields 78 = .ok (.invokevirtual 168, 3) := by decide +kernel
theorem dX4_yields_81 : decode cX4_yields 81 = .ok (.lload_n 3, 1) := by decide +kernel
theorem dX4_yields_82 : decode cX4_yields 82 = .ok (.lcmp, 1) := by decide +kernel
theorem dX4_yields_83 : decode cX4_yields 83 = .ok (.ifCond .lt 7, 3) := by decide +kernel
theorem dX4_yields_86 : decode cX4_yields 86 = .ok (.iconst 1, 1) := by decide +kernel
theorem dX4_yields_87 : decode cX4_yields 87 = .ok (.goto 4, 3) := by decide +kernel
theorem dX4_yields_90 : decode cX4_yields 90 = .ok (.iconst 0, 1) := by decide +kernel
theorem dX4_yields_91 : decode cX4_yields 91 = .ok (.iadd, 1) := by decide +kernel
theorem dX4_yields_92 : decode cX4_yields 92 = .ok (.istore 5, 2) := by decide +kernel
theorem dX4_yields_94 : decode cX4_yields 94 = .ok (.iinc 6 1, 3) := by decide +kernel
theorem dX4_yields_97 : decode cX4_yields 97 = .ok (.goto (-40), 3) := by decide +kernel
theorem dX4_yields_100 : decode cX4_yields 100 = .ok (.iload 5, 2) := by decide +kernel
theorem dX4_yields_102 : decode cX4_yields 102 = .ok (.ireturn, 1) := by decide +kernel
set_option maxRecDepth 20000 in
theorem ggX4_ofPart_X4_isPart : GoodIn wsX4_ofPart wsX4_isPart := goodIn_r _ [11, 12, 13, 14, 10, 15, 22, 23, 24, 25, 26, 27, 28, 29, 30, 31, 32, 33, 34, 35, 36, 37, 38, 39, 40, 41, 42, 43, 44, 45, 46] (by decide +kernel) (by decide +kernel)
set_option maxRecDepth 20000 in
theorem gX4_ofPart_X4_isPart : GoodIn wsX4_ofPart (wsV RX4 135 RX4 yX4_isPart wsX4_isPart) := goodIn_app (goodIn_of _ (by decide +kernel)) ggX4_ofPart_X4_isPart
set_option maxRecDepth 20000 in
theorem ggX4_ofPart_X4_in : GoodIn wsX4_ofPart wsX4_in := goodIn_r _ [15] (by decide +kernel) (by decide +kernel)
set_option maxRecDepth 20000 in
theorem gX4_ofPart_X4_in : GoodIn wsX4_ofPart (va_wsS RX4 78 yX4_in wsX4_in) := goodIn_app (goodIn_of _ (by decide +kernel)) ggX4_ofPart_X4_in
set_option maxRecDepth 20000 in
theorem ggX4_ofPart_X4_center : GoodIn wsX4_ofPart wsX4_center := goodIn_r _ [19, 20, 21, 4, 22, 23, 24, 25, 26, 27, 28, 29, 30, 31, 32, 33, 34, 35, 36, 37, 38, 39, 40, 41, 42, 43, 44, 45, 46] (by decide +kernel) (by decide +kernel)
set_option maxRecDepth 20000 in
theorem gX4_ofPart_X4_center : GoodIn wsX4_ofPart (wsV RX4 93 RX4 yX4_center wsX4_center) := goodIn_app (goodIn_of _ (by decide +kernel)) ggX4_ofPart_X4_center
theorem dX4_ofPart_0 : decode cX4_ofPart 0 = .ok (.aload_n 0, 1) := by decide +kernel
theorem dX4_ofPart_1 : decode cX4_ofPart 1 = .ok (.aload_n 0, 1) := by decide +kernel
theorem dX4_ofPart_2 : decode cX4_ofPart 2 = .ok (.iload_n 1, 1) := by decide +kernel
theorem dX4_ofPart_3 : decode cX4_ofPart 3 = .ok (.invokevirtual 135, 3) := by decide +kernel
theorem dX4_ofPart_6 : decode cX4_ofPart 6 = .ok (.ifCond .ne 7, 3) := by decide +kernel
theorem dX4_ofPart_9 : decode cX4_ofPart 9 = .ok (.iconst 1, 1) := by decide +kernel
theorem dX4_ofPart_10 : decode cX4_ofPart 10 = .ok (.goto 17, 3) := by decide +kernel
theorem dX4_ofPart_13 : decode cX4_ofPart 13 = .ok (.iload_n 2, 1) := by decide +kernel
theorem dX4_ofPart_14 : decode cX4_ofPart 14 = .ok (.iconst 0, 1) := by decide +kernel
theorem dX4_ofPart_15 : decode cX4_ofPart 15 = .ok (.iconst 5, 1) := by decide +kernel
theorem dX4_ofPart_16 : decode cX4_ofPart 16 = .ok (.invokestatic 78, 3) := by decide +kernel
theorem dX4_ofPart_19 : decode cX4_ofPart 19 = .ok (.ifCond .ne 7, 3) := by decide +kernel
theorem dX4_ofPart_22 : decode cX4_ofPart 22 = .ok (.iconst 2, 1) := by decide +kernel
theorem dX4_ofPart_23 : decode cX4_ofPart 23 = .ok (.goto 4, 3) := by decide +kernel
theorem dX4_ofPart_26 : decode cX4_ofPart 26 = .ok (.iconst 0, 1) := by decide +kernel
theorem dX4_ofPart_27 : decode cX4_ofPart 27 = .ok (.putfield 72, 3) := by decide +kernel
theorem dX4_ofPart_30 : decode cX4_ofPart 30 = .ok (.aload_n 0, 1) := by decide +kernel
theorem dX4_ofPart_31 : decode cX4_ofPart 31 = .ok (.getfield 72, 3) := by decide +kernel
theorem dX4_ofPart_34 : decode cX4_ofPart 34 = .ok (.ifCond .eq 5, 3) := by decide +kernel
theorem dX4_ofPart_37 : decode cX4_ofPart 37 = .ok (.iconst 0, 1) := by decide +kernel
theorem dX4_ofPart_38 : decode cX4_ofPart 38 = .ok (.ireturn, 1) := by decide +kernel
theorem dX4_ofPart_39 : decode cX4_ofPart 39 = .ok (.iload_n 2, 1) := by decide +kernel
theorem dX4_ofPart_40 : decode cX4_ofPart 40 = .ok (.ifCond .ne 12, 3) := by decide +kernel
theorem dX4_ofPart_43 : decode cX4_ofPart 43 = .ok (.aload_n 0, 1) := by decide +kernel
theorem dX4_ofPart_44 : decode cX4_ofPart 44 = .ok (.getfield 7, 3) := by decide +kernel
theorem dX4_ofPart_47 : decode cX4_ofPart 47 = .ok (.iload_n 1, 1) := by decide +kernel
theorem dX4_ofPart_48 : decode cX4_ofPart 48 = .ok (.iaload, 1) := by decide +kernel
theorem dX4_ofPart_49 : decode cX4_ofPart 49 = .ok (.goto 79, 3) := by decide +kernel
theorem dX4_ofPart_52 : decode cX4_ofPart 52 = .ok (.iload_n 2, 1) := by decide +kernel
theorem dX4_ofPart_53 : decode cX4_ofPart 53 = .ok (.iconst 1, 1) := by decide +kernel
theorem dX4_ofPart_54 : decode cX4_ofPart 54 = .ok (.if_icmp .ne 12, 3) := by decide +kernel
theorem dX4_ofPart_57 : decode cX4_ofPart 57 = .ok (.aload_n 0, 1) := by decide +kernel
theorem dX4_ofPart_58 : decode cX4_ofPart 58 = .ok (.getfield 22, 3) := by decide +kernel
theorem dX4_ofPart_61 : decode cX4_ofPart 61 = .ok (.iload_n 1, 1) := by decide +kernel
theorem dX4_ofPart_62 : decode cX4_ofPart 62 = .ok (.iaload, 1) := by decide +kernel
theorem dX4_ofPart_63 : decode cX4_ofPart 63 = .ok (.goto 65, 3) := by decide +kernel
theorem dX4_ofPart_66 : decode cX4_ofPart 66 = .ok (.iload_n 2, 1) := by decide +kernel
theorem dX4_ofPart_67 : decode cX4_ofPart 67 = .ok (.iconst 2, 1) := by decide +kernel
theorem dX4_ofPart_68 : decode cX4_ofPart 68 = .ok (.if_icmp .ne 26, 3) := by decide +kernel
theorem dX4_ofPart_71 : decode cX4_ofPart 71 = .ok (.aload_n 0, 1) := by decide +kernel
theorem dX4_ofPart_72 : decode cX4_ofPart 72 = .ok (.getfield 7, 3) := by decide +kernel
theorem dX4_ofPart_75 : decode cX4_ofPart 75 = .ok (.iload_n 1, 1) := by decide +kernel
theorem dX4_ofPart_76 : decode cX4_ofPart 76 = .ok (.iaload, 1) := by decide +kernel
theorem dX4_ofPart_77 : decode cX4_ofPart 77 = .ok (.iconst 3, 1) := by decide +kernel
theorem dX4_ofPart_78 : decode cX4_ofPart 78 = .ok (.if_icmp .ne 12, 3) := by decide +kernel
theorem dX4_ofPart_81 : decode cX4_ofPart 81 = .ok (.aload_n 0, 1) := by decide +kernel
theorem dX4_ofPart_82 : decode cX4_ofPart 82 = .ok (.iconst 0, 1) := by decide +kernel
theorem dX4_ofPart_83 : decode cX4_ofPart 83 = .ok (.iload_n 1, 1) := by decide +kernel
theorem dX4_ofPart_84 : decode cX4_ofPart 84 = .ok (.invokevirtual 93, 3) := by decide +kernel
theorem dX4_ofPart_87 : decode cX4_ofPart 87 = .ok (.goto 41, 3) := by decide +kernel
theorem dX4_ofPart_90 : decode cX4_ofPart 90 = .ok (.iconst (-1), 1) := by decide +kernel
theorem dX4_ofPart_91 : decode cX4_ofPart 91 = .ok (.goto 37, 3) := by decide +kernel
theorem dX4_ofPart_94 : decode cX4_ofPart 94 = .ok (.iload_n 2, 1) := by decide +kernel
theorem dX4_ofPart_95 : decode cX4_ofPart 95 = .ok (.iconst 3, 1) := by decide +kernel
theorem dX4_ofPart_96 : decode cX4_ofPart 96 = .ok (.if_icmp .ne 12, 3) := by decide +kernel
theorem dX4_ofPart_99 : decode cX4_ofPart 99 = .ok (.aload_n 0, 1) := by decide +kernel
theorem dX4_ofPart_100 : decode cX4_ofPart 100 = .ok (.getfield 59, 3) := by decide +kernel
theorem dX4_ofPart_103 : decode cX4_ofPart 103 = .ok (.iload_n 1, 1) := by decide +kernel
theorem dX4_ofPart_104 : decode cX4_ofPart 104 = .ok (.iaload, 1) := by decide +kernel
theorem dX4_ofPart_105 : decode cX4_ofPart 105 = .ok (.goto 23, 3) := by decide +kernel
theorem dX4_ofPart_108 : decode cX4_ofPart 108 = .ok (.iload_n 2, 1) := by decide +kernel
theorem dX4_ofPart_109 : decode cX4_ofPart 109 = .ok (.iconst 4, 1) := by decide +kernel
theorem dX4_ofPart_110 : decode cX4_ofPart 110 = .ok (.if_icmp .ne 12, 3) := by decide +kernel
theorem dX4_ofPart_113 : decode cX4_ofPart 113 = .ok (.aload_n 0, 1) := by decide +kernel
theorem dX4_ofPart_114 : decode cX4_ofPart 114 = .ok (.getfield 28, 3) := by decide +kernel
theorem dX4_ofPart_117 : decode cX4_ofPart 117 = .ok (.iload_n 1, 1) := by decide +kernel
theorem dX4_ofPart_118 : decode cX4_ofPart 118 = .ok (.iaload, 1) := by decide +kernel
theorem dX4_ofPart_119 : decode cX4_ofPart 119 = .ok (.goto 9, 3) := by decide +kernel
theorem dX4_ofPart_122 : decode cX4_ofPart 122 = .ok (.aload_n 0, 1) := by decide +kernel
theorem dX4_ofPart_123 : decode cX4_ofPart 123 = .ok (.getfield 41, 3) := by decide +kernel
theorem dX4_ofPart_126 : decode cX4_ofPart 126 = .ok (.iload_n 1, 1) := by decide +kernel
theorem dX4_ofPart_127 : decode cX4_ofPart 127 = .ok (.iaload, 1) := by decide +kernel
theorem dX4_ofPart_128 : decode cX4_ofPart 128 = .ok (.ireturn, 1) := by decide +kernel
set_option maxRecDepth 20000 in
theorem ggX4_comes_X4_isInput : GoodIn wsX4_comes wsX4_isInput := goodIn_r _ [7, 8, 9, 10, 11, 6, 12, 13, 14, 15, 16, 17, 18, 19, 20, 21, 22, 23, 24, 25, 26, 27, 28, 29, 30, 31, 32, 33, 34, 35, 36, 37, 38, 39, 40, 41, 42, 43, 44] (by decide +kernel) (by decide +kernel)
set_option maxRecDepth 20000 in
theorem gX4_comes_X4_isInput : GoodIn wsX4_comes (wsV RX4 148 RX4 yX4_isInput wsX4_isInput) := goodIn_app (goodIn_of _ (by decide +kernel)) ggX4_comes_X4_isInput
set_option maxRecDepth 20000 in
theorem ggX4_comes_X4_in : GoodIn wsX4_comes wsX4_in := goodIn_r _ [16] (by decide +kernel) (by decide +kernel)
set_option maxRecDepth 20000 in
theorem gX4_comes_X4_in : GoodIn wsX4_comes (va_wsS RX4 78 yX4_in wsX4_in) := goodIn_app (goodIn_of _ (by decide +kernel)) ggX4_comes_X4_in
theorem dX4_comes_0 : decode cX4_comes 0 = .ok (.aload_n 0, 1) := by decide +kernel
theorem dX4_comes_1 : decode cX4_comes 1 = .ok (.aload_n 0, 1) := by decide +kernel
theorem dX4_comes_2 : decode cX4_comes 2 = .ok (.iload_n 1, 1) := by decide +kernel
theorem dX4_comes_3 : decode cX4_comes 3 = .ok (.iload_n 2, 1) := by decide +kernel
theorem dX4_comes_4 : decode cX4_comes 4 = .ok (.invokevirtual 148, 3) := by decide +kernel
theorem dX4_comes_7 : decode cX4_comes 7 = .ok (.ifCond .ne 7, 3) := by decide +kernel
theorem dX4_comes_10 : decode cX4_comes 10 = .ok (.iconst 1, 1) := by decide +kernel
theorem dX4_comes_11 : decode cX4_comes 11 = .ok (.goto 18, 3) := by decide +kernel
theorem dX4_comes_14 : decode cX4_comes 14 = .ok (.iload_n 3, 1) := by decide +kernel
theorem dX4_comes_15 : decode cX4_comes 15 = .ok (.iconst 0, 1) := by decide +kernel
theorem dX4_comes_16 : decode cX4_comes 16 = .ok (.bipush 7, 2) := by decide +kernel
theorem dX4_comes_18 : decode cX4_comes 18 = .ok (.invokestatic 78, 3) := by decide +kernel
theorem dX4_comes_21 : decode cX4_comes 21 = .ok (.ifCond .ne 7, 3) := by decide +kernel
theorem dX4_comes_24 : decode cX4_comes 24 = .ok (.iconst 2, 1) := by decide +kernel
theorem dX4_comes_25 : decode cX4_comes 25 = .ok (.goto 4, 3) := by decide +kernel
theorem dX4_comes_28 : decode cX4_comes 28 = .ok (.iconst 0, 1) := by decide +kernel
theorem dX4_comes_29 : decode cX4_comes 29 = .ok (.putfield 72, 3) := by decide +kernel
theorem dX4_comes_32 : decode cX4_comes 32 = .ok (.aload_n 0, 1) := by decide +kernel
theorem dX4_comes_33 : decode cX4_comes 33 = .ok (.getfield 72, 3) := by decide +kernel
theorem dX4_comes_36 : decode cX4_comes 36 = .ok (.ifCond .eq 7, 3) := by decide +kernel
theorem dX4_comes_39 : decode cX4_comes 39 = .ok (.lconst 0, 1) := by decide +kernel
theorem dX4_comes_40 : decode cX4_comes 40 = .ok (.goto 18, 3) := by decide +kernel
theorem dX4_comes_43 : decode cX4_comes 43 = .ok (.aload_n 0, 1) := by decide +kernel
theorem dX4_comes_44 : decode cX4_comes 44 = .ok (.getfield 47, 3) := by decide +kernel
theorem dX4_comes_47 : decode cX4_comes 47 = .ok (.bipush 8, 2) := by decide +kernel
theorem dX4_comes_49 : decode cX4_comes 49 = .ok (.iconst 2, 1) := by decide +kernel
theorem dX4_comes_50 : decode cX4_comes 50 = .ok (.iload_n 1, 1) := by decide +kernel
theorem dX4_comes_51 : decode cX4_comes 51 = .ok (.imul, 1) := by decide +kernel
theorem dX4_comes_52 : decode cX4_comes 52 = .ok (.iload_n 2, 1) := by decide +kernel
theorem dX4_comes_53 : decode cX4_comes 53 = .ok (.iadd, 1) := by decide +kernel
theorem dX4_comes_54 : decode cX4_comes 54 = .ok (.imul, 1) := by decide +kernel
theorem dX4_comes_55 : decode cX4_comes 55 = .ok (.iload_n 3, 1) := by decide +kernel
theorem dX4_comes_56 : decode cX4_comes 56 = .ok (.iadd, 1) := by decide +kernel
theorem dX4_comes_57 : decode cX4_comes 57 = .ok (.laload, 1) := by decide +kernel
theorem dX4_comes_58 : decode cX4_comes 58 = .ok (.lreturn, 1) := by decide +kernel
set_option maxRecDepth 20000 in
theorem ggX4_seen_X4_isPart : GoodIn wsX4_seen wsX4_isPart := goodIn_r _ [8, 9, 10, 11, 7, 12, 17, 18, 19, 20, 21, 22, 23, 24, 25, 26, 27, 28, 29, 30, 31, 32, 33, 34, 35, 36, 37, 38, 39, 40, 41] (by decide +kernel) (by decide +kernel)
set_option maxRecDepth 20000 in
theorem gX4_seen_X4_isPart : GoodIn wsX4_seen (wsV RX4 135 RX4 yX4_isPart wsX4_isPart) := goodIn_app (goodIn_of _ (by decide +kernel)) ggX4_seen_X4_isPart
set_option maxRecDepth 20000 in
theorem ggX4_seen_X4_in : GoodIn wsX4_seen wsX4_in := goodIn_r _ [12] (by decide +kernel) (by decide +kernel)
set_option maxRecDepth 20000 in
theorem gX4_seen_X4_in : GoodIn wsX4_seen (va_wsS RX4 78 yX4_in wsX4_in) := goodIn_app (goodIn_of _ (by decide +kernel)) ggX4_seen_X4_in
set_option maxRecDepth 20000 in
theorem ggX4_seen_X4_sees : GoodIn wsX4_seen wsX4_sees := goodIn_r _ [16, 3, 17, 18, 19, 20, 21, 22, 23, 24, 25, 26, 27, 28, 29, 30, 31, 32, 33, 34, 35, 36, 37, 38, 39, 40, 41] (by decide +kernel) (by decide +kernel)
set_option maxRecDepth 20000 in
theorem gX4_seen_X4_sees : GoodIn wsX4_seen (wsV RX4 164 RX4 yX4_sees wsX4_sees) := goodIn_app (goodIn_of _ (by decide +kernel)) ggX4_seen_X4_sees
theorem dX4_seen_0 : decode cX4_seen 0 = .ok (.aload_n 0, 1) := by decide +kernel
theorem dX4_seen_1 : decode cX4_seen 1 = .ok (.aload_n 0, 1) := by decide +kernel
theorem dX4_seen_2 : decode cX4_seen 2 = .ok (.iload_n 1, 1) := by decide +kernel
theorem dX4_seen_3 : decode cX4_seen 3 = .ok (.invokevirtual 135, 3) := by decide +kernel
theorem dX4_seen_6 : decode cX4_seen 6 = .ok (.ifCond .ne 7, 3) := by decide +kernel
theorem dX4_seen_9 : decode cX4_seen 9 = .ok (.iconst 1, 1) := by decide +kernel
theorem dX4_seen_10 : decode cX4_seen 10 = .ok (.goto 32, 3) := by decide +kernel
theorem dX4_seen_13 : decode cX4_seen 13 = .ok (.iload_n 2, 1) := by decide +kernel
theorem dX4_seen_14 : decode cX4_seen 14 = .ok (.iconst (-1), 1) := by decide +kernel
theorem dX4_seen_15 : decode cX4_seen 15 = .ok (.bipush 7, 2) := by decide +kernel
theorem dX4_seen_17 : decode cX4_seen 17 = .ok (.invokestatic 78, 3) := by decide +kernel
theorem dX4_seen_20 : decode cX4_seen 20 = .ok (.ifCond .ne 7, 3) := by decide +kernel
theorem dX4_seen_23 : decode cX4_seen 23 = .ok (.iconst 2, 1) := by decide +kernel
theorem dX4_seen_24 : decode cX4_seen 24 = .ok (.goto 18, 3) := by decide +kernel
theorem dX4_seen_27 : decode cX4_seen 27 = .ok (.aload_n 0, 1) := by decide +kernel
theorem dX4_seen_28 : decode cX4_seen 28 = .ok (.getfield 7, 3) := by decide +kernel
theorem dX4_seen_31 : decode cX4_seen 31 = .ok (.iload_n 1, 1) := by decide +kernel
theorem dX4_seen_32 : decode cX4_seen 32 = .ok (.iaload, 1) := by decide +kernel
theorem dX4_seen_33 : decode cX4_seen 33 = .ok (.iconst 5, 1) := by decide +kernel
theorem dX4_seen_34 : decode cX4_seen 34 = .ok (.if_icmp .eq 7, 3) := by decide +kernel
theorem dX4_seen_37 : decode cX4_seen 37 = .ok (.iconst 3, 1) := by decide +kernel
theorem dX4_seen_38 : decode cX4_seen 38 = .ok (.goto 4, 3) := by decide +kernel
theorem dX4_seen_41 : decode cX4_seen 41 = .ok (.iconst 0, 1) := by decide +kernel
theorem dX4_seen_42 : decode cX4_seen 42 = .ok (.putfield 72, 3) := by decide +kernel
theorem dX4_seen_45 : decode cX4_seen 45 = .ok (.aload_n 0, 1) := by decide +kernel
theorem dX4_seen_46 : decode cX4_seen 46 = .ok (.getfield 72, 3) := by decide +kernel
theorem dX4_seen_49 : decode cX4_seen 49 = .ok (.ifCond .eq 7, 3) := by decide +kernel
theorem dX4_seen_52 : decode cX4_seen 52 = .ok (.lconst 0, 1) := by decide +kernel
theorem dX4_seen_53 : decode cX4_seen 53 = .ok (.goto 27, 3) := by decide +kernel
theorem dX4_seen_56 : decode cX4_seen 56 = .ok (.iload_n 2, 1) := by decide +kernel
theorem dX4_seen_57 : decode cX4_seen 57 = .ok (.ifCond .ge 12, 3) := by decide +kernel
theorem dX4_seen_60 : decode cX4_seen 60 = .ok (.aload_n 0, 1) := by decide +kernel
theorem dX4_seen_61 : decode cX4_seen 61 = .ok (.iconst 0, 1) := by decide +kernel
theorem dX4_seen_62 : decode cX4_seen 62 = .ok (.iload_n 1, 1) := by decide +kernel
theorem dX4_seen_63 : decode cX4_seen 63 = .ok (.invokevirtual 164, 3) := by decide +kernel
theorem dX4_seen_66 : decode cX4_seen 66 = .ok (.goto 14, 3) := by decide +kernel
theorem dX4_seen_69 : decode cX4_seen 69 = .ok (.aload_n 0, 1) := by decide +kernel
theorem dX4_seen_70 : decode cX4_seen 70 = .ok (.getfield 56, 3) := by decide +kernel
theorem dX4_seen_73 : decode cX4_seen 73 = .ok (.bipush 8, 2) := by decide +kernel
theorem dX4_seen_75 : decode cX4_seen 75 = .ok (.iload_n 1, 1) := by decide +kernel
theorem dX4_seen_76 : decode cX4_seen 76 = .ok (.imul, 1) := by decide +kernel
theorem dX4_seen_77 : decode cX4_seen 77 = .ok (.iload_n 2, 1) := by decide +kernel
theorem dX4_seen_78 : decode cX4_seen 78 = .ok (.iadd, 1) := by decide +kernel
theorem dX4_seen_79 : decode cX4_seen 79 = .ok (.laload, 1) := by decide +kernel
theorem dX4_seen_80 : decode cX4_seen 80 = .ok (.lreturn, 1) := by decide +kernel
set_option maxRecDepth 20000 in
theorem ggX4_account_X4_in : GoodIn wsX4_account wsX4_in := goodIn_r _ [11] (by decide +kernel) (by decide +kernel)
set_option maxRecDepth 20000 in
theorem gX4_account_X4_in : GoodIn wsX4_account (va_wsS RX4 78 yX4_in wsX4_in) := goodIn_app (goodIn_of _ (by decide +kernel)) ggX4_account_X4_in
set_option maxRecDepth 20000 in
theorem ggX4_account_X4_sees : GoodIn wsX4_account wsX4_sees := goodIn_r _ [15, 16, 17, 18, 19, 20, 21, 22, 23, 24, 25, 26, 27, 28, 29, 30, 31, 32, 33, 34, 35, 36, 37, 38, 39, 40, 41] (by decide +kernel) (by decide +kernel)
set_option maxRecDepth 20000 in
theorem gX4_account_X4_sees : GoodIn wsX4_account (wsV RX4 164 RX4 yX4_sees wsX4_sees) := goodIn_app (goodIn_of _ (by decide +kernel)) ggX4_account_X4_sees
theorem dX4_account_0 : decode cX4_account 0 = .ok (.aload_n 0, 1) := by decide +kernel
theorem dX4_account_1 : decode cX4_account 1 = .ok (.iload_n 1, 1) := by decide +kernel
theorem dX4_account_2 : decode cX4_account 2 = .ok (.iconst 0, 1) := by decide +kernel
theorem dX4_account_3 : decode cX4_account 3 = .ok (.iconst 4, 1) := by decide +kernel
theorem dX4_account_4 : decode cX4_account 4 = .ok (.invokestatic 78, 3) := by decide +kernel
theorem dX4_account_7 : decode cX4_account 7 = .ok (.ifCond .eq 7, 3) := by decide +kernel
theorem dX4_account_10 : decode cX4_account 10 = .ok (.iconst 0, 1) := by decide +kernel
theorem dX4_account_11 : decode cX4_account 11 = .ok (.goto 4, 3) := by decide +kernel
theorem dX4_account_14 : decode cX4_account 14 = .ok (.iconst 1, 1) := by decide +kernel
theorem dX4_account_15 : decode cX4_account 15 = .ok (.putfield 72, 3) := by decide +kernel
theorem dX4_account_18 : decode cX4_account 18 = .ok (.aload_n 0, 1) := by decide +kernel
theorem dX4_account_19 : decode cX4_account 19 = .ok (.getfield 72, 3) := by decide +kernel
theorem dX4_account_22 : decode cX4_account 22 = .ok (.ifCond .eq 5, 3) := by decide +kernel
theorem dX4_account_25 : decode cX4_account 25 = .ok (.lconst 0, 1) := by decide +kernel
theorem dX4_account_26 : decode cX4_account 26 = .ok (.lreturn, 1) := by decide +kernel
theorem dX4_account_27 : decode cX4_account 27 = .ok (.lconst 0, 1) := by decide +kernel
theorem dX4_account_28 : decode cX4_account 28 = .ok (.lstore_n 2, 1) := by decide +kernel
theorem dX4_account_29 : decode cX4_account 29 = .ok (.iconst 0, 1) := by decide +kernel
theorem dX4_account_30 : decode cX4_account 30 = .ok (.istore 4, 2) := by decide +kernel
theorem dX4_account_32 : decode cX4_account 32 = .ok (.iload 4, 2) := by decide +kernel
theorem dX4_account_34 : decode cX4_account 34 = .ok (.aload_n 0, 1) := by decide +kernel
theorem dX4_account_35 : decode cX4_account 35 = .ok (.getfield 75, 3) := by decide +kernel
theorem dX4_account_38 : decode cX4_account 38 = .ok (.if_icmp .ge 28, 3) := by decide +kernel
theorem dX4_account_41 : decode cX4_account 41 = .ok (.lload_n 2, 1) := by decide +kernel
theorem dX4_account_42 : decode cX4_account 42 = .ok (.iload_n 1, 1) := by decide +kernel
theorem dX4_account_43 : decode cX4_account 43 = .ok (.iconst 3, 1) := by decide +kernel
theorem dX4_account_44 : decode cX4_account 44 = .ok (.if_icmp .ne 13, 3) := by decide +kernel
theorem dX4_account_47 : decode cX4_account 47 = .ok (.aload_n 0, 1) := by decide +kernel
theorem dX4_account_48 : decode cX4_account 48 = .ok (.iconst 0, 1) := by decide +kernel
theorem dX4_account_49 : decode cX4_account 49 = .ok (.iload 4, 2) := by decide +kernel
theorem dX4_account_51 : decode cX4_account 51 = .ok (.invokevirtual 164, 3) := by decide +kernel
theorem dX4_account_54 : decode cX4_account 54 = .ok (.goto 4, 3) := by decide +kernel
theorem dX4_account_57 : decode cX4_account 57 = .ok (.lconst 0, 1) := by decide +kernel
theorem dX4_account_58 : decode cX4_account 58 = .ok (.ladd, 1) := by decide +kernel
theorem dX4_account_59 : decode cX4_account 59 = .ok (.lstore_n 2, 1) := by decide +kernel
theorem dX4_account_60 : decode cX4_account 60 = .ok (.iinc 4 1, 3) := by decide +kernel
theorem dX4_account_63 : decode cX4_account 63 = .ok (.goto (-31), 3) := by decide +kernel
theorem dX4_account_66 : decode cX4_account 66 = .ok (.iconst 0, 1) := by decide +kernel
theorem dX4_account_67 : decode cX4_account 67 = .ok (.istore 4, 2) := by decide +kernel
theorem dX4_account_69 : decode cX4_account 69 = .ok (.iload 4, 2) := by decide +kernel
theorem dX4_account_71 : decode cX4_account 71 = .ok (.sipush 1024, 3) := by decide +kernel
theorem dX4_account_74 : decode cX4_account 74 = .ok (.if_icmp .ge 44, 3) := by decide +kernel
theorem dX4_account_77 : decode cX4_account 77 = .ok (.iload_n 1, 1) := by decide +kernel
theorem dX4_account_78 : decode cX4_account 78 = .ok (.iconst 4, 1) := by decide +kernel
theorem dX4_account_79 : decode cX4_account 79 = .ok (.if_icmp .ne 39, 3) := by decide +kernel
theorem dX4_account_82 : decode cX4_account 82 = .ok (.lload_n 2, 1) := by decide +kernel
theorem dX4_account_83 : decode cX4_account 83 = .ok (.aload_n 0, 1) := by decide +kernel
theorem dX4_account_84 : decode cX4_account 84 = .ok (.getfield 53, 3) := by decide +kernel
theorem dX4_account_87 : decode cX4_account 87 = .ok (.iload 4, 2) := by decide +kernel
theorem dX4_account_89 : decode cX4_account 89 = .ok (.laload, 1) := by decide +kernel
theorem dX4_account_90 : decode cX4_account 90 = .ok (.iload 4, 2) := by decide +kernel
theorem dX4_account_92 : decode cX4_account 92 = .ok (.sipush 256, 3) := by decide +kernel
theorem dX4_account_95 : decode cX4_account 95 = .ok (.if_icmp .ge 13, 3) := by decide +kernel
theorem dX4_account_98 : decode cX4_account 98 = .ok (.aload_n 0, 1) := by decide +kernel
theorem dX4_account_99 : decode cX4_account 99 = .ok (.getfield 47, 3) := by decide +kernel
theorem dX4_account_102 : decode cX4_account 102 = .ok (.iload 4, 2) := by decide +kernel
theorem dX4_account_104 : decode cX4_account 104 = .ok (.laload, 1) := by decide +kernel
theorem dX4_account_105 : decode cX4_account 105 = .ok (.goto 4, 3) := by decide +kernel
theorem dX4_account_108 : decode cX4_account 108 = .ok (.lconst 0, 1) := by decide +kernel
theorem dX4_account_109 : decode cX4_account 109 = .ok (.ladd, 1) := by decide +kernel
theorem dX4_account_110 : decode cX4_account 110 = .ok (.ladd, 1) := by decide +kernel
theorem dX4_account_111 : decode cX4_account 111 = .ok (.lstore_n 2, 1) := by decide +kernel
theorem dX4_account_112 : decode cX4_account 112 = .ok (.iinc 4 1, 3) := by decide +kernel
theorem dX4_account_115 : decode cX4_account 115 = .ok (.goto (-46), 3) := by decide +kernel
theorem dX4_account_118 : decode cX4_account 118 = .ok (.iload_n 1, 1) := by decide +kernel
theorem dX4_account_119 : decode cX4_account 119 = .ok (.ifCond .ne 10, 3) := by decide +kernel
theorem dX4_account_122 : decode cX4_account 122 = .ok (.aload_n 0, 1) := by decide +kernel
theorem dX4_account_123 : decode cX4_account 123 = .ok (.getfield 110, 3) := by decide +kernel
theorem dX4_account_126 : decode cX4_account 126 = .ok (.goto 28, 3) := by decide +kernel
theorem dX4_account_129 : decode cX4_account 129 = .ok (.iload_n 1, 1) := by decide +kernel
theorem dX4_account_130 : decode cX4_account 130 = .ok (.iconst 1, 1) := by decide +kernel
theorem dX4_account_131 : decode cX4_account 131 = .ok (.if_icmp .ne 10, 3) := by decide +kernel
theorem dX4_account_134 : decode cX4_account 134 = .ok (.aload_n 0, 1) := by decide +kernel
theorem dX4_account_135 : decode cX4_account 135 = .ok (.getfield 90, 3) := by decide +kernel
theorem dX4_account_138 : decode cX4_account 138 = .ok (.goto 16, 3) := by decide +kernel
theorem dX4_account_141 : decode cX4_account 141 = .ok (.iload_n 1, 1) := by decide +kernel
theorem dX4_account_142 : decode cX4_account 142 = .ok (.iconst 2, 1) := by decide +kernel
theorem dX4_account_143 : decode cX4_account 143 = .ok (.if_icmp .ne 10, 3) := by decide +kernel
theorem dX4_account_146 : decode cX4_account 146 = .ok (.aload_n 0, 1) := by decide +kernel
theorem dX4_account_147 : decode cX4_account 147 = .ok (.getfield 86, 3) := by decide +kernel
theorem dX4_account_150 : decode cX4_account 150 = .ok (.goto 4, 3) := by decide +kernel
theorem dX4_account_153 : decode cX4_account 153 = .ok (.lload_n 2, 1) := by decide +kernel
theorem dX4_account_154 : decode cX4_account 154 = .ok (.lreturn, 1) := by decide +kernel
theorem dX4_tick_0 : decode cX4_tick 0 = .ok (.aload_n 0, 1) := by decide +kernel
theorem dX4_tick_1 : decode cX4_tick 1 = .ok (.iconst 0, 1) := by decide +kernel
theorem dX4_tick_2 : decode cX4_tick 2 = .ok (.putfield 72, 3) := by decide +kernel
theorem dX4_tick_5 : decode cX4_tick 5 = .ok (.aload_n 0, 1) := by decide +kernel
theorem dX4_tick_6 : decode cX4_tick 6 = .ok (.getfield 62, 3) := by decide +kernel
theorem dX4_tick_9 : decode cX4_tick 9 = .ok (.iconst 0, 1) := by decide +kernel
theorem dX4_tick_10 : decode cX4_tick 10 = .ok (.iaload, 1) := by decide +kernel
theorem dX4_tick_11 : decode cX4_tick 11 = .ok (.ireturn, 1) := by decide +kernel
theorem dJ9_floorMod_7cf53_0 : decode cJ9_floorMod_7cf53 0 = .ok (.iload_n 0, 1) := by decide +kernel
theorem dJ9_floorMod_7cf53_1 : decode cJ9_floorMod_7cf53 1 = .ok (.iload_n 1, 1) := by decide +kernel
theorem dJ9_floorMod_7cf53_2 : decode cJ9_floorMod_7cf53 2 = .ok (.irem, 1) := by decide +kernel
theorem dJ9_floorMod_7cf53_3 : decode cJ9_floorMod_7cf53 3 = .ok (.istore_n 2, 1) := by decide +kernel
theorem dJ9_floorMod_7cf53_4 : decode cJ9_floorMod_7cf53 4 = .ok (.iload_n 0, 1) := by decide +kernel
theorem dJ9_floorMod_7cf53_5 : decode cJ9_floorMod_7cf53 5 = .ok (.iload_n 1, 1) := by decide +kernel
theorem dJ9_floorMod_7cf53_6 : decode cJ9_floorMod_7cf53 6 = .ok (.ixor, 1) := by decide +kernel
theorem dJ9_floorMod_7cf53_7 : decode cJ9_floorMod_7cf53 7 = .ok (.ifCond .ge 11, 3) := by decide +kernel
theorem dJ9_floorMod_7cf53_10 : decode cJ9_floorMod_7cf53 10 = .ok (.iload_n 2, 1) := by decide +kernel
theorem dJ9_floorMod_7cf53_11 : decode cJ9_floorMod_7cf53 11 = .ok (.ifCond .eq 7, 3) := by decide +kernel
theorem dJ9_floorMod_7cf53_14 : decode cJ9_floorMod_7cf53 14 = .ok (.iload_n 2, 1) := by decide +kernel
theorem dJ9_floorMod_7cf53_15 : decode cJ9_floorMod_7cf53 15 = .ok (.iload_n 1, 1) := by decide +kernel
theorem dJ9_floorMod_7cf53_16 : decode cJ9_floorMod_7cf53 16 = .ok (.iadd, 1) := by decide +kernel
theorem dJ9_floorMod_7cf53_17 : decode cJ9_floorMod_7cf53 17 = .ok (.ireturn, 1) := by decide +kernel
theorem dJ9_floorMod_7cf53_18 : decode cJ9_floorMod_7cf53 18 = .ok (.iload_n 2, 1) := by decide +kernel
theorem dJ9_floorMod_7cf53_19 : decode cJ9_floorMod_7cf53 19 = .ok (.ireturn, 1) := by decide +kernel
theorem dJ9_abs_0f7a4_0 : decode cJ9_abs_0f7a4 0 = .ok (.iload_n 0, 1) := by decide +kernel
theorem dJ9_abs_0f7a4_1 : decode cJ9_abs_0f7a4 1 = .ok (.ifCond .ge 8, 3) := by decide +kernel
theorem dJ9_abs_0f7a4_4 : decode cJ9_abs_0f7a4 4 = .ok (.iload_n 0, 1) := by decide +kernel
theorem dJ9_abs_0f7a4_5 : decode cJ9_abs_0f7a4 5 = .ok (.ineg, 1) := by decide +kernel
theorem dJ9_abs_0f7a4_6 : decode cJ9_abs_0f7a4 6 = .ok (.goto 4, 3) := by decide +kernel
theorem dJ9_abs_0f7a4_9 : decode cJ9_abs_0f7a4 9 = .ok (.iload_n 0, 1) := by decide +kernel
theorem dJ9_abs_0f7a4_10 : decode cJ9_abs_0f7a4 10 = .ok (.ireturn, 1) := by decide +kernel
theorem dJ9_max_7cf53_0 : decode cJ9_max_7cf53 0 = .ok (.iload_n 0, 1) := by decide +kernel
theorem dJ9_max_7cf53_1 : decode cJ9_max_7cf53 1 = .ok (.iload_n 1, 1) := by decide +kernel
theorem dJ9_max_7cf53_2 : decode cJ9_max_7cf53 2 = .ok (.if_icmp .lt 7, 3) := by decide +kernel
theorem dJ9_max_7cf53_5 : decode cJ9_max_7cf53 5 = .ok (.iload_n 0, 1) := by decide +kernel
theorem dJ9_max_7cf53_6 : decode cJ9_max_7cf53 6 = .ok (.goto 4, 3) := by decide +kernel
theorem dJ9_max_7cf53_9 : decode cJ9_max_7cf53 9 = .ok (.iload_n 1, 1) := by decide +kernel
theorem dJ9_max_7cf53_10 : decode cJ9_max_7cf53 10 = .ok (.ireturn, 1) := by decide +kernel
theorem dJ9_min_7cf53_0 : decode cJ9_min_7cf53 0 = .ok (.iload_n 0, 1) := by decide +kernel
theorem dJ9_min_7cf53_1 : decode cJ9_min_7cf53 1 = .ok (.iload_n 1, 1) := by decide +kernel
theorem dJ9_min_7cf53_2 : decode cJ9_min_7cf53 2 = .ok (.if_icmp .gt 7, 3) := by decide +kernel
theorem dJ9_min_7cf53_5 : decode cJ9_min_7cf53 5 = .ok (.iload_n 0, 1) := by decide +kernel
theorem dJ9_min_7cf53_6 : decode cJ9_min_7cf53 6 = .ok (.goto 4, 3) := by decide +kernel
theorem dJ9_min_7cf53_9 : decode cJ9_min_7cf53 9 = .ok (.iload_n 1, 1) := by decide +kernel
theorem dJ9_min_7cf53_10 : decode cJ9_min_7cf53 10 = .ok (.ireturn, 1) := by decide +kernel
theorem dJ7_fill_d0a16_0 : decode cJ7_fill_d0a16 0 = .ok (.iconst 0, 1) := by decide +kernel
theorem dJ7_fill_d0a16_1 : decode cJ7_fill_d0a16 1 = .ok (.istore_n 3, 1) := by decide +kernel
theorem dJ7_fill_d0a16_2 : decode cJ7_fill_d0a16 2 = .ok (.aload_n 0, 1) := by decide +kernel
theorem dJ7_fill_d0a16_3 : decode cJ7_fill_d0a16 3 = .ok (.arraylength, 1) := by decide +kernel
theorem dJ7_fill_d0a16_4 : decode cJ7_fill_d0a16 4 = .ok (.istore 4, 2) := by decide +kernel
theorem dJ7_fill_d0a16_6 : decode cJ7_fill_d0a16 6 = .ok (.iload_n 3, 1) := by decide +kernel
theorem dJ7_fill_d0a16_7 : decode cJ7_fill_d0a16 7 = .ok (.iload 4, 2) := by decide +kernel
theorem dJ7_fill_d0a16_9 : decode cJ7_fill_d0a16 9 = .ok (.if_icmp .ge 13, 3) := by decide +kernel
theorem dJ7_fill_d0a16_12 : decode cJ7_fill_d0a16 12 = .ok (.aload_n 0, 1) := by decide +kernel
theorem dJ7_fill_d0a16_13 : decode cJ7_fill_d0a16 13 = .ok (.iload_n 3, 1) := by decide +kernel
theorem dJ7_fill_d0a16_14 : decode cJ7_fill_d0a16 14 = .ok (.lload_n 1, 1) := by decide +kernel
theorem dJ7_fill_d0a16_15 : decode cJ7_fill_d0a16 15 = .ok (.lastore, 1) := by decide +kernel
theorem dJ7_fill_d0a16_16 : decode cJ7_fill_d0a16 16 = .ok (.iinc 3 1, 3) := by decide +kernel
theorem dJ7_fill_d0a16_19 : decode cJ7_fill_d0a16 19 = .ok (.goto (-13), 3) := by decide +kernel
theorem dJ7_fill_d0a16_22 : decode cJ7_fill_d0a16 22 = .ok (.return_, 1) := by decide +kernel
theorem dJ7_fill_53178_0 : decode cJ7_fill_53178 0 = .ok (.iconst 0, 1) := by decide +kernel
theorem dJ7_fill_53178_1 : decode cJ7_fill_53178 1 = .ok (.istore_n 2, 1) := by decide +kernel
theorem dJ7_fill_53178_2 : decode cJ7_fill_53178 2 = .ok (.aload_n 0, 1) := by decide +kernel
theorem dJ7_fill_53178_3 : decode cJ7_fill_53178 3 = .ok (.arraylength, 1) := by decide +kernel
theorem dJ7_fill_53178_4 : decode cJ7_fill_53178 4 = .ok (.istore_n 3, 1) := by decide +kernel
theorem dJ7_fill_53178_5 : decode cJ7_fill_53178 5 = .ok (.iload_n 2, 1) := by decide +kernel
theorem dJ7_fill_53178_6 : decode cJ7_fill_53178 6 = .ok (.iload_n 3, 1) := by decide +kernel
theorem dJ7_fill_53178_7 : decode cJ7_fill_53178 7 = .ok (.if_icmp .ge 13, 3) := by decide +kernel
theorem dJ7_fill_53178_10 : decode cJ7_fill_53178 10 = .ok (.aload_n 0, 1) := by decide +kernel
theorem dJ7_fill_53178_11 : decode cJ7_fill_53178 11 = .ok (.iload_n 2, 1) := by decide +kernel
theorem dJ7_fill_53178_12 : decode cJ7_fill_53178 12 = .ok (.iload_n 1, 1) := by decide +kernel
theorem dJ7_fill_53178_13 : decode cJ7_fill_53178 13 = .ok (.iastore, 1) := by decide +kernel
theorem dJ7_fill_53178_14 : decode cJ7_fill_53178 14 = .ok (.iinc 2 1, 3) := by decide +kernel
theorem dJ7_fill_53178_17 : decode cJ7_fill_53178 17 = .ok (.goto (-12), 3) := by decide +kernel
theorem dJ7_fill_53178_20 : decode cJ7_fill_53178 20 = .ok (.return_, 1) := by decide +kernel
