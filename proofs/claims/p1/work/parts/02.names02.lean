theorem dX6_take_89 : decode cX6_take 89 = .ok (.istore 7, 2) := by decide +kernel
theorem dX6_take_91 : decode cX6_take 91 = .ok (.aload_n 0, 1) := by decide +kernel
theorem dX6_take_92 : decode cX6_take 92 = .ok (.dup, 1) := by decide +kernel
theorem dX6_take_93 : decode cX6_take 93 = .ok (.getfield 44, 3) := by decide +kernel
theorem dX6_take_96 : decode cX6_take 96 = .ok (.iconst 1, 1) := by decide +kernel
theorem dX6_take_97 : decode cX6_take 97 = .ok (.iadd, 1) := by decide +kernel
theorem dX6_take_98 : decode cX6_take 98 = .ok (.putfield 44, 3) := by decide +kernel
theorem dX6_take_101 : decode cX6_take 101 = .ok (.iload 6, 2) := by decide +kernel
theorem dX6_take_103 : decode cX6_take 103 = .ok (.ifCond .eq 10, 3) := by decide +kernel
theorem dX6_take_106 : decode cX6_take 106 = .ok (.aload_n 0, 1) := by decide +kernel
theorem dX6_take_107 : decode cX6_take 107 = .ok (.invokevirtual 47, 3) := by decide +kernel
theorem dX6_take_110 : decode cX6_take 110 = .ok (.goto 52, 3) := by decide +kernel
theorem dX6_take_113 : decode cX6_take 113 = .ok (.iload 5, 2) := by decide +kernel
theorem dX6_take_115 : decode cX6_take 115 = .ok (.ifCond .eq 37, 3) := by decide +kernel
theorem dX6_take_118 : decode cX6_take 118 = .ok (.aload_n 0, 1) := by decide +kernel
theorem dX6_take_119 : decode cX6_take 119 = .ok (.getfield 18, 3) := by decide +kernel
theorem dX6_take_122 : decode cX6_take 122 = .ok (.iload 4, 2) := by decide +kernel
theorem dX6_take_124 : decode cX6_take 124 = .ok (.invokevirtual 50, 3) := by decide +kernel
theorem dX6_take_127 : decode cX6_take 127 = .ok (.ifCond .ne 25, 3) := by decide +kernel
theorem dX6_take_130 : decode cX6_take 130 = .ok (.aload_n 0, 1) := by decide +kernel
theorem dX6_take_131 : decode cX6_take 131 = .ok (.getfield 18, 3) := by decide +kernel
theorem dX6_take_134 : decode cX6_take 134 = .ok (.iload 4, 2) := by decide +kernel
theorem dX6_take_136 : decode cX6_take 136 = .ok (.invokevirtual 54, 3) := by decide +kernel
theorem dX6_take_139 : decode cX6_take 139 = .ok (.aload_n 0, 1) := by decide +kernel
theorem dX6_take_140 : decode cX6_take 140 = .ok (.dup, 1) := by decide +kernel
theorem dX6_take_141 : decode cX6_take 141 = .ok (.getfield 41, 3) := by decide +kernel
theorem dX6_take_144 : decode cX6_take 144 = .ok (.iconst 1, 1) := by decide +kernel
theorem dX6_take_145 : decode cX6_take 145 = .ok (.iadd, 1) := by decide +kernel
theorem dX6_take_146 : decode cX6_take 146 = .ok (.putfield 41, 3) := by decide +kernel
theorem dX6_take_149 : decode cX6_take 149 = .ok (.goto 13, 3) := by decide +kernel
theorem dX6_take_152 : decode cX6_take 152 = .ok (.aload_n 0, 1) := by decide +kernel
theorem dX6_take_153 : decode cX6_take 153 = .ok (.dup, 1) := by decide +kernel
theorem dX6_take_154 : decode cX6_take 154 = .ok (.getfield 58, 3) := by decide +kernel
theorem dX6_take_157 : decode cX6_take 157 = .ok (.iconst 1, 1) := by decide +kernel
theorem dX6_take_158 : decode cX6_take 158 = .ok (.iadd, 1) := by decide +kernel
theorem dX6_take_159 : decode cX6_take 159 = .ok (.putfield 58, 3) := by decide +kernel
theorem dX6_take_162 : decode cX6_take 162 = .ok (.iload 7, 2) := by decide +kernel
theorem dX6_take_164 : decode cX6_take 164 = .ok (.ifCond .eq 14, 3) := by decide +kernel
theorem dX6_take_167 : decode cX6_take 167 = .ok (.aload_n 0, 1) := by decide +kernel
theorem dX6_take_168 : decode cX6_take 168 = .ok (.iload_n 3, 1) := by decide +kernel
theorem dX6_take_169 : decode cX6_take 169 = .ok (.bipush 100, 2) := by decide +kernel
theorem dX6_take_171 : decode cX6_take 171 = .ok (.iadd, 1) := by decide +kernel
theorem dX6_take_172 : decode cX6_take 172 = .ok (.putfield 22, 3) := by decide +kernel
theorem dX6_take_175 : decode cX6_take 175 = .ok (.goto 13, 3) := by decide +kernel
theorem dX6_take_178 : decode cX6_take 178 = .ok (.aload_n 0, 1) := by decide +kernel
theorem dX6_take_179 : decode cX6_take 179 = .ok (.aload_n 2, 1) := by decide +kernel
theorem dX6_take_180 : decode cX6_take 180 = .ok (.aload_n 1, 1) := by decide +kernel
theorem dX6_take_181 : decode cX6_take 181 = .ok (.getfield 61, 3) := by decide +kernel
theorem dX6_take_184 : decode cX6_take 184 = .ok (.iload_n 3, 1) := by decide +kernel
theorem dX6_take_185 : decode cX6_take 185 = .ok (.invokevirtual 64, 3) := by decide +kernel
theorem dX6_take_188 : decode cX6_take 188 = .ok (.return_, 1) := by decide +kernel
set_option maxRecDepth 20000 in
theorem ggX6_tellWindow_X6_answer : GoodIn wsX6_tellWindow wsX6_answer := goodIn_r _ [6, 7, 8, 9, 10, 11, 12, 13, 14, 15, 16, 17, 18, 19, 20, 21, 22, 23, 24, 25, 26, 27, 28, 29, 30, 31, 32, 33, 34, 35, 36, 37, 38, 39, 40, 41, 42, 43, 44, 45, 46, 47, 48, 49, 50, 51, 52, 53, 54, 55, 56, 57, 58, 59, 60, 61, 62, 63, 64, 65, 66, 67, 68, 69, 70, 71, 72, 73, 74, 75, 76, 77, 78, 79, 80, 81, 82, 83, 84, 85] (by decide +kernel) (by decide +kernel)
set_option maxRecDepth 20000 in
theorem gX6_tellWindow_X6_answer : GoodIn wsX6_tellWindow (wsV RX6 64 RX6 yX6_answer wsX6_answer) := goodIn_app (goodIn_of _ (by decide +kernel)) ggX6_tellWindow_X6_answer
theorem dX6_tellWindow_0 : decode cX6_tellWindow 0 = .ok (.aload_n 0, 1) := by decide +kernel
theorem dX6_tellWindow_1 : decode cX6_tellWindow 1 = .ok (.getfield 32, 3) := by decide +kernel
theorem dX6_tellWindow_4 : decode cX6_tellWindow 4 = .ok (.ifCond .eq 15, 3) := by decide +kernel
theorem dX6_tellWindow_7 : decode cX6_tellWindow 7 = .ok (.aload_n 0, 1) := by decide +kernel
theorem dX6_tellWindow_8 : decode cX6_tellWindow 8 = .ok (.iconst 0, 1) := by decide +kernel
theorem dX6_tellWindow_9 : decode cX6_tellWindow 9 = .ok (.putfield 32, 3) := by decide +kernel
theorem dX6_tellWindow_12 : decode cX6_tellWindow 12 = .ok (.aload_n 0, 1) := by decide +kernel
theorem dX6_tellWindow_13 : decode cX6_tellWindow 13 = .ok (.aload_n 1, 1) := by decide +kernel
theorem dX6_tellWindow_14 : decode cX6_tellWindow 14 = .ok (.iconst 1, 1) := by decide +kernel
theorem dX6_tellWindow_15 : decode cX6_tellWindow 15 = .ok (.iload_n 2, 1) := by decide +kernel
theorem dX6_tellWindow_16 : decode cX6_tellWindow 16 = .ok (.invokevirtual 64, 3) := by decide +kernel
theorem dX6_tellWindow_19 : decode cX6_tellWindow 19 = .ok (.return_, 1) := by decide +kernel
set_option maxRecDepth 20000 in
theorem ggX6_answerLate_X6_answer : GoodIn wsX6_answerLate wsX6_answer := goodIn_r _ [6, 1, 7, 8, 9, 10, 11, 12, 13, 14, 15, 16, 17, 18, 19, 20, 21, 22, 23, 24, 25, 26, 27, 28, 29, 30, 31, 32, 33, 34, 35, 36, 37, 38, 39, 40, 41, 42, 43, 44, 45, 46, 47, 48, 49, 50, 51, 52, 53, 54, 55, 56, 57, 58, 59, 60, 61, 62, 63, 64, 65, 66, 67, 68, 69, 70, 71, 72, 73, 74, 75, 76, 77, 78, 79, 80, 81, 82, 83, 84] (by decide +kernel) (by decide +kernel)
set_option maxRecDepth 20000 in
theorem gX6_answerLate_X6_answer : GoodIn wsX6_answerLate (wsV RX6 64 RX6 yX6_answer wsX6_answer) := goodIn_app (goodIn_of _ (by decide +kernel)) ggX6_answerLate_X6_answer
theorem dX6_answerLate_0 : decode cX6_answerLate 0 = .ok (.aload_n 0, 1) := by decide +kernel
theorem dX6_answerLate_1 : decode cX6_answerLate 1 = .ok (.getfield 22, 3) := by decide +kernel
theorem dX6_answerLate_4 : decode cX6_answerLate 4 = .ok (.iload_n 2, 1) := by decide +kernel
theorem dX6_answerLate_5 : decode cX6_answerLate 5 = .ok (.if_icmp .ne 10, 3) := by decide +kernel
theorem dX6_answerLate_8 : decode cX6_answerLate 8 = .ok (.aload_n 0, 1) := by decide +kernel
theorem dX6_answerLate_9 : decode cX6_answerLate 9 = .ok (.aload_n 1, 1) := by decide +kernel
theorem dX6_answerLate_10 : decode cX6_answerLate 10 = .ok (.iconst 0, 1) := by decide +kernel
theorem dX6_answerLate_11 : decode cX6_answerLate 11 = .ok (.iload_n 2, 1) := by decide +kernel
theorem dX6_answerLate_12 : decode cX6_answerLate 12 = .ok (.invokevirtual 64, 3) := by decide +kernel
theorem dX6_answerLate_15 : decode cX6_answerLate 15 = .ok (.return_, 1) := by decide +kernel
set_option maxRecDepth 20000 in
theorem ggX6_leastKept_X4_has : GoodIn wsX6_leastKept wsX4_has := goodIn_r _ [7, 8, 20] (by decide +kernel) (by decide +kernel)
set_option maxRecDepth 20000 in
theorem gX6_leastKept_X4_has : GoodIn wsX6_leastKept (wsV RX6 50 RX4 yX4_has wsX4_has) := goodIn_app (goodIn_of _ (by decide +kernel)) ggX6_leastKept_X4_has
theorem dX6_leastKept_0 : decode cX6_leastKept 0 = .ok (.iload_n 1, 1) := by decide +kernel
theorem dX6_leastKept_1 : decode cX6_leastKept 1 = .ok (.istore_n 2, 1) := by decide +kernel
theorem dX6_leastKept_2 : decode cX6_leastKept 2 = .ok (.aload_n 0, 1) := by decide +kernel
theorem dX6_leastKept_3 : decode cX6_leastKept 3 = .ok (.getfield 38, 3) := by decide +kernel
theorem dX6_leastKept_6 : decode cX6_leastKept 6 = .ok (.istore_n 3, 1) := by decide +kernel
theorem dX6_leastKept_7 : decode cX6_leastKept 7 = .ok (.iload_n 2, 1) := by decide +kernel
theorem dX6_leastKept_8 : decode cX6_leastKept 8 = .ok (.ifCond .lt 41, 3) := by decide +kernel
theorem dX6_leastKept_11 : decode cX6_leastKept 11 = .ok (.iload_n 3, 1) := by decide +kernel
theorem dX6_leastKept_12 : decode cX6_leastKept 12 = .ok (.aload_n 0, 1) := by decide +kernel
theorem dX6_leastKept_13 : decode cX6_leastKept 13 = .ok (.getfield 38, 3) := by decide +kernel
theorem dX6_leastKept_16 : decode cX6_leastKept 16 = .ok (.sipush 200, 3) := by decide +kernel
theorem dX6_leastKept_19 : decode cX6_leastKept 19 = .ok (.iadd, 1) := by decide +kernel
theorem dX6_leastKept_20 : decode cX6_leastKept 20 = .ok (.if_icmp .ge 29, 3) := by decide +kernel
theorem dX6_leastKept_23 : decode cX6_leastKept 23 = .ok (.aload_n 0, 1) := by decide +kernel
theorem dX6_leastKept_24 : decode cX6_leastKept 24 = .ok (.getfield 18, 3) := by decide +kernel
theorem dX6_leastKept_27 : decode cX6_leastKept 27 = .ok (.iload_n 3, 1) := by decide +kernel
theorem dX6_leastKept_28 : decode cX6_leastKept 28 = .ok (.invokevirtual 50, 3) := by decide +kernel
theorem dX6_leastKept_31 : decode cX6_leastKept 31 = .ok (.ifCond .eq 12, 3) := by decide +kernel
theorem dX6_leastKept_34 : decode cX6_leastKept 34 = .ok (.iload_n 2, 1) := by decide +kernel
theorem dX6_leastKept_35 : decode cX6_leastKept 35 = .ok (.ifCond .ne 5, 3) := by decide +kernel
theorem dX6_leastKept_38 : decode cX6_leastKept 38 = .ok (.iload_n 3, 1) := by decide +kernel
theorem dX6_leastKept_39 : decode cX6_leastKept 39 = .ok (.ireturn, 1) := by decide +kernel
theorem dX6_leastKept_40 : decode cX6_leastKept 40 = .ok (.iinc 2 (-1), 3) := by decide +kernel
theorem dX6_leastKept_43 : decode cX6_leastKept 43 = .ok (.iinc 3 1, 3) := by decide +kernel
theorem dX6_leastKept_46 : decode cX6_leastKept 46 = .ok (.goto (-39), 3) := by decide +kernel
theorem dX6_leastKept_49 : decode cX6_leastKept 49 = .ok (.iconst (-1), 1) := by decide +kernel
theorem dX6_leastKept_50 : decode cX6_leastKept 50 = .ok (.ireturn, 1) := by decide +kernel
theorem dX6_tell_0 : decode cX6_tell 0 = .ok (.iload_n 1, 1) := by decide +kernel
theorem dX6_tell_1 : decode cX6_tell 1 = .ok (.tableswitch 78 0 6 #[43, 48, 53, 58, 63, 68, 73], 43) := by decide +kernel
theorem dX6_tell_44 : decode cX6_tell 44 = .ok (.aload_n 0, 1) := by decide +kernel
theorem dX6_tell_45 : decode cX6_tell 45 = .ok (.getfield 38, 3) := by decide +kernel
theorem dX6_tell_48 : decode cX6_tell 48 = .ok (.ireturn, 1) := by decide +kernel
theorem dX6_tell_49 : decode cX6_tell 49 = .ok (.aload_n 0, 1) := by decide +kernel
theorem dX6_tell_50 : decode cX6_tell 50 = .ok (.getfield 41, 3) := by decide +kernel
theorem dX6_tell_53 : decode cX6_tell 53 = .ok (.ireturn, 1) := by decide +kernel
theorem dX6_tell_54 : decode cX6_tell 54 = .ok (.aload_n 0, 1) := by decide +kernel
theorem dX6_tell_55 : decode cX6_tell 55 = .ok (.getfield 9, 3) := by decide +kernel
theorem dX6_tell_58 : decode cX6_tell 58 = .ok (.ireturn, 1) := by decide +kernel
theorem dX6_tell_59 : decode cX6_tell 59 = .ok (.aload_n 0, 1) := by decide +kernel
theorem dX6_tell_60 : decode cX6_tell 60 = .ok (.getfield 68, 3) := by decide +kernel
theorem dX6_tell_63 : decode cX6_tell 63 = .ok (.ireturn, 1) := by decide +kernel
theorem dX6_tell_64 : decode cX6_tell 64 = .ok (.aload_n 0, 1) := by decide +kernel
theorem dX6_tell_65 : decode cX6_tell 65 = .ok (.getfield 44, 3) := by decide +kernel
theorem dX6_tell_68 : decode cX6_tell 68 = .ok (.ireturn, 1) := by decide +kernel
theorem dX6_tell_69 : decode cX6_tell 69 = .ok (.aload_n 0, 1) := by decide +kernel
theorem dX6_tell_70 : decode cX6_tell 70 = .ok (.getfield 58, 3) := by decide +kernel
theorem dX6_tell_73 : decode cX6_tell 73 = .ok (.ireturn, 1) := by decide +kernel
theorem dX6_tell_74 : decode cX6_tell 74 = .ok (.aload_n 0, 1) := by decide +kernel
theorem dX6_tell_75 : decode cX6_tell 75 = .ok (.getfield 22, 3) := by decide +kernel
theorem dX6_tell_78 : decode cX6_tell 78 = .ok (.ireturn, 1) := by decide +kernel
theorem dX6_tell_79 : decode cX6_tell 79 = .ok (.iconst (-1), 1) := by decide +kernel
theorem dX6_tell_80 : decode cX6_tell 80 = .ok (.ireturn, 1) := by decide +kernel
set_option maxRecDepth 20000 in
theorem ggX6_goOn_X4_has : GoodIn wsX6_goOn wsX4_has := goodIn_r _ [8, 9, 26] (by decide +kernel) (by decide +kernel)
set_option maxRecDepth 20000 in
theorem gX6_goOn_X4_has : GoodIn wsX6_goOn (wsV RX6 50 RX4 yX4_has wsX4_has) := goodIn_app (goodIn_of _ (by decide +kernel)) ggX6_goOn_X4_has
set_option maxRecDepth 20000 in
theorem ggX6_goOn_X4_drop : GoodIn wsX6_goOn wsX4_drop := goodIn_r _ [13, 9, 14, 26] (by decide +kernel) (by decide +kernel)
set_option maxRecDepth 20000 in
theorem gX6_goOn_X4_drop : GoodIn wsX6_goOn (wsV RX6 71 RX4 yX4_drop wsX4_drop) := goodIn_app (goodIn_of _ (by decide +kernel)) ggX6_goOn_X4_drop
theorem dX6_goOn_0 : decode cX6_goOn 0 = .ok (.aload_n 0, 1) := by decide +kernel
theorem dX6_goOn_1 : decode cX6_goOn 1 = .ok (.dup, 1) := by decide +kernel
theorem dX6_goOn_2 : decode cX6_goOn 2 = .ok (.getfield 38, 3) := by decide +kernel
theorem dX6_goOn_5 : decode cX6_goOn 5 = .ok (.iconst 1, 1) := by decide +kernel
theorem dX6_goOn_6 : decode cX6_goOn 6 = .ok (.iadd, 1) := by decide +kernel
theorem dX6_goOn_7 : decode cX6_goOn 7 = .ok (.putfield 38, 3) := by decide +kernel
theorem dX6_goOn_10 : decode cX6_goOn 10 = .ok (.aload_n 0, 1) := by decide +kernel
theorem dX6_goOn_11 : decode cX6_goOn 11 = .ok (.getfield 41, 3) := by decide +kernel
theorem dX6_goOn_14 : decode cX6_goOn 14 = .ok (.ifCond .le 51, 3) := by decide +kernel
theorem dX6_goOn_17 : decode cX6_goOn 17 = .ok (.aload_n 0, 1) := by decide +kernel
theorem dX6_goOn_18 : decode cX6_goOn 18 = .ok (.getfield 18, 3) := by decide +kernel
theorem dX6_goOn_21 : decode cX6_goOn 21 = .ok (.aload_n 0, 1) := by decide +kernel
theorem dX6_goOn_22 : decode cX6_goOn 22 = .ok (.getfield 38, 3) := by decide +kernel
theorem dX6_goOn_25 : decode cX6_goOn 25 = .ok (.invokevirtual 50, 3) := by decide +kernel
theorem dX6_goOn_28 : decode cX6_goOn 28 = .ok (.ifCond .eq 37, 3) := by decide +kernel
theorem dX6_goOn_31 : decode cX6_goOn 31 = .ok (.aload_n 0, 1) := by decide +kernel
theorem dX6_goOn_32 : decode cX6_goOn 32 = .ok (.getfield 18, 3) := by decide +kernel
theorem dX6_goOn_35 : decode cX6_goOn 35 = .ok (.aload_n 0, 1) := by decide +kernel
theorem dX6_goOn_36 : decode cX6_goOn 36 = .ok (.getfield 38, 3) := by decide +kernel
theorem dX6_goOn_39 : decode cX6_goOn 39 = .ok (.invokevirtual 71, 3) := by decide +kernel
theorem dX6_goOn_42 : decode cX6_goOn 42 = .ok (.aload_n 0, 1) := by decide +kernel
theorem dX6_goOn_43 : decode cX6_goOn 43 = .ok (.dup, 1) := by decide +kernel
theorem dX6_goOn_44 : decode cX6_goOn 44 = .ok (.getfield 38, 3) := by decide +kernel
theorem dX6_goOn_47 : decode cX6_goOn 47 = .ok (.iconst 1, 1) := by decide +kernel
theorem dX6_goOn_48 : decode cX6_goOn 48 = .ok (.iadd, 1) := by decide +kernel
theorem dX6_goOn_49 : decode cX6_goOn 49 = .ok (.putfield 38, 3) := by decide +kernel
theorem dX6_goOn_52 : decode cX6_goOn 52 = .ok (.aload_n 0, 1) := by decide +kernel
theorem dX6_goOn_53 : decode cX6_goOn 53 = .ok (.dup, 1) := by decide +kernel
theorem dX6_goOn_54 : decode cX6_goOn 54 = .ok (.getfield 41, 3) := by decide +kernel
theorem dX6_goOn_57 : decode cX6_goOn 57 = .ok (.iconst 1, 1) := by decide +kernel
theorem dX6_goOn_58 : decode cX6_goOn 58 = .ok (.isub, 1) := by decide +kernel
theorem dX6_goOn_59 : decode cX6_goOn 59 = .ok (.putfield 41, 3) := by decide +kernel
theorem dX6_goOn_62 : decode cX6_goOn 62 = .ok (.goto (-52), 3) := by decide +kernel
theorem dX6_goOn_65 : decode cX6_goOn 65 = .ok (.return_, 1) := by decide +kernel
set_option maxRecDepth 20000 in
theorem ggX6_answer_X7_sendAck : GoodIn wsX6_answer wsX7_sendAck := goodIn_r _ [7, 8, 9, 10, 11, 12, 13, 14, 15, 16, 17, 18, 19, 20, 21, 22, 23, 24, 25, 26, 27, 28, 29, 30, 31, 32, 33, 34, 35, 36, 37, 38, 39, 40, 41, 42, 54, 55, 56, 57, 58, 59, 60, 61, 62, 63, 64, 65, 66, 67, 68, 69, 70, 71, 72, 73, 74, 75, 43, 44, 45, 46, 47, 48, 49, 50, 51, 52, 53, 76, 77, 78, 79] (by decide +kernel) (by decide +kernel)
set_option maxRecDepth 20000 in
theorem gX6_answer_X7_sendAck : GoodIn wsX6_answer (wsV RX6 74 RX7 yX7_sendAck wsX7_sendAck) := goodIn_app (goodIn_of _ (by decide +kernel)) ggX6_answer_X7_sendAck
theorem dX6_answer_0 : decode cX6_answer 0 = .ok (.aload_n 0, 1) := by decide +kernel
theorem dX6_answer_1 : decode cX6_answer 1 = .ok (.iconst (-1), 1) := by decide +kernel
theorem dX6_answer_2 : decode cX6_answer 2 = .ok (.putfield 22, 3) := by decide +kernel
theorem dX6_answer_5 : decode cX6_answer 5 = .ok (.aload_n 0, 1) := by decide +kernel
theorem dX6_answer_6 : decode cX6_answer 6 = .ok (.dup, 1) := by decide +kernel
theorem dX6_answer_7 : decode cX6_answer 7 = .ok (.getfield 68, 3) := by decide +kernel
theorem dX6_answer_10 : decode cX6_answer 10 = .ok (.iconst 1, 1) := by decide +kernel
theorem dX6_answer_11 : decode cX6_answer 11 = .ok (.iadd, 1) := by decide +kernel
theorem dX6_answer_12 : decode cX6_answer 12 = .ok (.putfield 68, 3) := by decide +kernel
theorem dX6_answer_15 : decode cX6_answer 15 = .ok (.aload_n 1, 1) := by decide +kernel
theorem dX6_answer_16 : decode cX6_answer 16 = .ok (.aload_n 0, 1) := by decide +kernel
theorem dX6_answer_17 : decode cX6_answer 17 = .ok (.iload_n 2, 1) := by decide +kernel
theorem dX6_answer_18 : decode cX6_answer 18 = .ok (.iload_n 3, 1) := by decide +kernel
theorem dX6_answer_19 : decode cX6_answer 19 = .ok (.invokevirtual 74, 3) := by decide +kernel
theorem dX6_answer_22 : decode cX6_answer 22 = .ok (.return_, 1) := by decide +kernel
set_option maxRecDepth 20000 in
theorem ggX7_init_X1_init : GoodIn wsX7_init wsX1_init := goodIn_r _ [18, 19, 2, 3] (by decide +kernel) (by decide +kernel)
set_option maxRecDepth 20000 in
theorem gX7_init_X1_init_n26 : GoodIn wsX7_init (wsX1_init) := ggX7_init_X1_init
theorem dX7_init_0 : decode cX7_init 0 = .ok (.aload_n 0, 1) := by decide +kernel
theorem dX7_init_1 : decode cX7_init 1 = .ok (.invokespecial 3, 3) := by decide +kernel
theorem dX7_init_4 : decode cX7_init 4 = .ok (.aload_n 0, 1) := by decide +kernel
theorem dX7_init_5 : decode cX7_init 5 = .ok (.bipush 10, 2) := by decide +kernel
theorem dX7_init_7 : decode cX7_init 7 = .ok (.putfield 9, 3) := by decide +kernel
theorem dX7_init_10 : decode cX7_init 10 = .ok (.aload_n 0, 1) := by decide +kernel
theorem dX7_init_11 : decode cX7_init 11 = .ok (.bipush 20, 2) := by decide +kernel
theorem dX7_init_13 : decode cX7_init 13 = .ok (.putfield 15, 3) := by decide +kernel
theorem dX7_init_16 : decode cX7_init 16 = .ok (.aload_n 0, 1) := by decide +kernel
theorem dX7_init_17 : decode cX7_init 17 = .ok (.bipush 20, 2) := by decide +kernel
theorem dX7_init_19 : decode cX7_init 19 = .ok (.putfield 18, 3) := by decide +kernel
theorem dX7_init_22 : decode cX7_init 22 = .ok (.aload_n 0, 1) := by decide +kernel
theorem dX7_init_23 : decode cX7_init 23 = .ok (.bipush 20, 2) := by decide +kernel
theorem dX7_init_25 : decode cX7_init 25 = .ok (.putfield 21, 3) := by decide +kernel
theorem dX7_init_28 : decode cX7_init 28 = .ok (.aload_n 0, 1) := by decide +kernel
theorem dX7_init_29 : decode cX7_init 29 = .ok (.new 24, 3) := by decide +kernel
theorem dX7_init_32 : decode cX7_init 32 = .ok (.dup, 1) := by decide +kernel
theorem dX7_init_33 : decode cX7_init 33 = .ok (.invokespecial 26, 3) := by decide +kernel
theorem dX7_init_36 : decode cX7_init 36 = .ok (.putfield 27, 3) := by decide +kernel
theorem dX7_init_39 : decode cX7_init 39 = .ok (.aload_n 0, 1) := by decide +kernel
theorem dX7_init_40 : decode cX7_init 40 = .ok (.new 24, 3) := by decide +kernel
theorem dX7_init_43 : decode cX7_init 43 = .ok (.dup, 1) := by decide +kernel
theorem dX7_init_44 : decode cX7_init 44 = .ok (.invokespecial 26, 3) := by decide +kernel
theorem dX7_init_47 : decode cX7_init 47 = .ok (.putfield 31, 3) := by decide +kernel
theorem dX7_init_50 : decode cX7_init 50 = .ok (.aload_n 0, 1) := by decide +kernel
theorem dX7_init_51 : decode cX7_init 51 = .ok (.new 24, 3) := by decide +kernel
theorem dX7_init_54 : decode cX7_init 54 = .ok (.dup, 1) := by decide +kernel
theorem dX7_init_55 : decode cX7_init 55 = .ok (.invokespecial 26, 3) := by decide +kernel
theorem dX7_init_58 : decode cX7_init 58 = .ok (.putfield 34, 3) := by decide +kernel
theorem dX7_init_61 : decode cX7_init 61 = .ok (.aload_n 0, 1) := by decide +kernel
theorem dX7_init_62 : decode cX7_init 62 = .ok (.new 24, 3) := by decide +kernel
theorem dX7_init_65 : decode cX7_init 65 = .ok (.dup, 1) := by decide +kernel
theorem dX7_init_66 : decode cX7_init 66 = .ok (.invokespecial 26, 3) := by decide +kernel
theorem dX7_init_69 : decode cX7_init 69 = .ok (.putfield 37, 3) := by decide +kernel
theorem dX7_init_72 : decode cX7_init 72 = .ok (.aload_n 0, 1) := by decide +kernel
theorem dX7_init_73 : decode cX7_init 73 = .ok (.bipush 64, 2) := by decide +kernel
theorem dX7_init_75 : decode cX7_init 75 = .ok (.newarray .int, 2) := by decide +kernel
theorem dX7_init_77 : decode cX7_init 77 = .ok (.putfield 40, 3) := by decide +kernel
theorem dX7_init_80 : decode cX7_init 80 = .ok (.return_, 1) := by decide +kernel
theorem dX7_set_0 : decode cX7_set 0 = .ok (.aload_n 0, 1) := by decide +kernel
theorem dX7_set_1 : decode cX7_set 1 = .ok (.iload_n 1, 1) := by decide +kernel
theorem dX7_set_2 : decode cX7_set 2 = .ok (.putfield 9, 3) := by decide +kernel
theorem dX7_set_5 : decode cX7_set 5 = .ok (.aload_n 0, 1) := by decide +kernel
theorem dX7_set_6 : decode cX7_set 6 = .ok (.iload_n 2, 1) := by decide +kernel
theorem dX7_set_7 : decode cX7_set 7 = .ok (.putfield 15, 3) := by decide +kernel
theorem dX7_set_10 : decode cX7_set 10 = .ok (.aload_n 0, 1) := by decide +kernel
theorem dX7_set_11 : decode cX7_set 11 = .ok (.iload_n 3, 1) := by decide +kernel
theorem dX7_set_12 : decode cX7_set 12 = .ok (.putfield 18, 3) := by decide +kernel
theorem dX7_set_15 : decode cX7_set 15 = .ok (.aload_n 0, 1) := by decide +kernel
theorem dX7_set_16 : decode cX7_set 16 = .ok (.iload 4, 2) := by decide +kernel
theorem dX7_set_18 : decode cX7_set 18 = .ok (.putfield 21, 3) := by decide +kernel
theorem dX7_set_21 : decode cX7_set 21 = .ok (.return_, 1) := by decide +kernel
set_option maxRecDepth 20000 in
theorem ggX7_tellLost_X7_placeOfTold : GoodIn wsX7_tellLost wsX7_placeOfTold := goodIn_r _ [8, 2, 3, 9, 10, 11, 12, 13, 14, 15, 16, 17, 18, 19, 20, 21, 22, 23] (by decide +kernel) (by decide +kernel)
set_option maxRecDepth 20000 in
theorem gX7_tellLost_X7_placeOfTold : GoodIn wsX7_tellLost (wsV RX7 50 RX7 yX7_placeOfTold wsX7_placeOfTold) := goodIn_app (goodIn_of _ (by decide +kernel)) ggX7_tellLost_X7_placeOfTold
theorem dX7_tellLost_0 : decode cX7_tellLost 0 = .ok (.iload_n 1, 1) := by decide +kernel
theorem dX7_tellLost_1 : decode cX7_tellLost 1 = .ok (.aload_n 0, 1) := by decide +kernel
theorem dX7_tellLost_2 : decode cX7_tellLost 2 = .ok (.getfield 44, 3) := by decide +kernel
theorem dX7_tellLost_5 : decode cX7_tellLost 5 = .ok (.if_icmp .lt 12, 3) := by decide +kernel
theorem dX7_tellLost_8 : decode cX7_tellLost 8 = .ok (.aload_n 0, 1) := by decide +kernel
theorem dX7_tellLost_9 : decode cX7_tellLost 9 = .ok (.getfield 47, 3) := by decide +kernel
theorem dX7_tellLost_12 : decode cX7_tellLost 12 = .ok (.bipush 64, 2) := by decide +kernel
theorem dX7_tellLost_14 : decode cX7_tellLost 14 = .ok (.if_icmp .lt 5, 3) := by decide +kernel
theorem dX7_tellLost_17 : decode cX7_tellLost 17 = .ok (.iconst 0, 1) := by decide +kernel
theorem dX7_tellLost_18 : decode cX7_tellLost 18 = .ok (.ireturn, 1) := by decide +kernel
theorem dX7_tellLost_19 : decode cX7_tellLost 19 = .ok (.aload_n 0, 1) := by decide +kernel
theorem dX7_tellLost_20 : decode cX7_tellLost 20 = .ok (.iload_n 1, 1) := by decide +kernel
theorem dX7_tellLost_21 : decode cX7_tellLost 21 = .ok (.invokevirtual 50, 3) := by decide +kernel
theorem dX7_tellLost_24 : decode cX7_tellLost 24 = .ok (.iconst (-1), 1) := by decide +kernel
theorem dX7_tellLost_25 : decode cX7_tellLost 25 = .ok (.if_icmp .ne 23, 3) := by decide +kernel
theorem dX7_tellLost_28 : decode cX7_tellLost 28 = .ok (.aload_n 0, 1) := by decide +kernel
theorem dX7_tellLost_29 : decode cX7_tellLost 29 = .ok (.getfield 40, 3) := by decide +kernel
theorem dX7_tellLost_32 : decode cX7_tellLost 32 = .ok (.aload_n 0, 1) := by decide +kernel
theorem dX7_tellLost_33 : decode cX7_tellLost 33 = .ok (.getfield 47, 3) := by decide +kernel
theorem dX7_tellLost_36 : decode cX7_tellLost 36 = .ok (.iload_n 1, 1) := by decide +kernel
theorem dX7_tellLost_37 : decode cX7_tellLost 37 = .ok (.iastore, 1) := by decide +kernel
theorem dX7_tellLost_38 : decode cX7_tellLost 38 = .ok (.aload_n 0, 1) := by decide +kernel
theorem dX7_tellLost_39 : decode cX7_tellLost 39 = .ok (.dup, 1) := by decide +kernel
theorem dX7_tellLost_40 : decode cX7_tellLost 40 = .ok (.getfield 47, 3) := by decide +kernel
theorem dX7_tellLost_43 : decode cX7_tellLost 43 = .ok (.iconst 1, 1) := by decide +kernel
theorem dX7_tellLost_44 : decode cX7_tellLost 44 = .ok (.iadd, 1) := by decide +kernel
theorem dX7_tellLost_45 : decode cX7_tellLost 45 = .ok (.putfield 47, 3) := by decide +kernel
theorem dX7_tellLost_48 : decode cX7_tellLost 48 = .ok (.iconst 1, 1) := by decide +kernel
theorem dX7_tellLost_49 : decode cX7_tellLost 49 = .ok (.ireturn, 1) := by decide +kernel
set_option maxRecDepth 20000 in
theorem ggX7_moveLink_X1_putByDue : GoodIn wsX7_moveLink wsX1_putByDue := goodIn_r _ [10, 11, 12, 13, 14, 15, 16, 9, 17, 44, 45, 46, 37, 38, 39, 40, 41, 42, 43] (by decide +kernel) (by decide +kernel)
set_option maxRecDepth 20000 in
theorem gX7_moveLink_X1_putByDue : GoodIn wsX7_moveLink (wsV RX7 63 RX1 yX1_putByDue wsX1_putByDue) := goodIn_app (goodIn_of _ (by decide +kernel)) ggX7_moveLink_X1_putByDue
set_option maxRecDepth 20000 in
theorem ggX7_moveLink_X1_takeFirst : GoodIn wsX7_moveLink wsX1_takeFirst := goodIn_r _ [21, 11, 13, 12, 44, 45, 46, 37, 38, 39, 40, 41, 42, 43] (by decide +kernel) (by decide +kernel)
set_option maxRecDepth 20000 in
theorem gX7_moveLink_X1_takeFirst : GoodIn wsX7_moveLink (wsV RX7 67 RX1 yX1_takeFirst wsX1_takeFirst) := goodIn_app (goodIn_of _ (by decide +kernel)) ggX7_moveLink_X1_takeFirst
theorem dX7_moveLink_0 : decode cX7_moveLink 0 = .ok (.aload_n 0, 1) := by decide +kernel
theorem dX7_moveLink_1 : decode cX7_moveLink 1 = .ok (.getfield 54, 3) := by decide +kernel
theorem dX7_moveLink_4 : decode cX7_moveLink 4 = .ok (.astore_n 2, 1) := by decide +kernel
theorem dX7_moveLink_5 : decode cX7_moveLink 5 = .ok (.aload_n 2, 1) := by decide +kernel
theorem dX7_moveLink_6 : decode cX7_moveLink 6 = .ok (.ifnull 11, 3) := by decide +kernel
theorem dX7_moveLink_9 : decode cX7_moveLink 9 = .ok (.aload_n 2, 1) := by decide +kernel
theorem dX7_moveLink_10 : decode cX7_moveLink 10 = .ok (.getfield 58, 3) := by decide +kernel
theorem dX7_moveLink_13 : decode cX7_moveLink 13 = .ok (.iload_n 1, 1) := by decide +kernel
theorem dX7_moveLink_14 : decode cX7_moveLink 14 = .ok (.if_icmp .eq 4, 3) := by decide +kernel
theorem dX7_moveLink_17 : decode cX7_moveLink 17 = .ok (.return_, 1) := by decide +kernel
theorem dX7_moveLink_18 : decode cX7_moveLink 18 = .ok (.aload_n 2, 1) := by decide +kernel
theorem dX7_moveLink_19 : decode cX7_moveLink 19 = .ok (.iload_n 1, 1) := by decide +kernel
theorem dX7_moveLink_20 : decode cX7_moveLink 20 = .ok (.aload_n 0, 1) := by decide +kernel
theorem dX7_moveLink_21 : decode cX7_moveLink 21 = .ok (.getfield 18, 3) := by decide +kernel
theorem dX7_moveLink_24 : decode cX7_moveLink 24 = .ok (.iadd, 1) := by decide +kernel
theorem dX7_moveLink_25 : decode cX7_moveLink 25 = .ok (.putfield 58, 3) := by decide +kernel
theorem dX7_moveLink_28 : decode cX7_moveLink 28 = .ok (.aload_n 0, 1) := by decide +kernel
theorem dX7_moveLink_29 : decode cX7_moveLink 29 = .ok (.getfield 31, 3) := by decide +kernel
theorem dX7_moveLink_32 : decode cX7_moveLink 32 = .ok (.aload_n 2, 1) := by decide +kernel
theorem dX7_moveLink_33 : decode cX7_moveLink 33 = .ok (.invokevirtual 63, 3) := by decide +kernel
theorem dX7_moveLink_36 : decode cX7_moveLink 36 = .ok (.aload_n 0, 1) := by decide +kernel
theorem dX7_moveLink_37 : decode cX7_moveLink 37 = .ok (.getfield 27, 3) := by decide +kernel
theorem dX7_moveLink_40 : decode cX7_moveLink 40 = .ok (.invokevirtual 67, 3) := by decide +kernel
theorem dX7_moveLink_43 : decode cX7_moveLink 43 = .ok (.astore_n 3, 1) := by decide +kernel
theorem dX7_moveLink_44 : decode cX7_moveLink 44 = .ok (.aload_n 3, 1) := by decide +kernel
theorem dX7_moveLink_45 : decode cX7_moveLink 45 = .ok (.ifnull 13, 3) := by decide +kernel
theorem dX7_moveLink_48 : decode cX7_moveLink 48 = .ok (.aload_n 3, 1) := by decide +kernel
theorem dX7_moveLink_49 : decode cX7_moveLink 49 = .ok (.iload_n 1, 1) := by decide +kernel
theorem dX7_moveLink_50 : decode cX7_moveLink 50 = .ok (.aload_n 0, 1) := by decide +kernel
theorem dX7_moveLink_51 : decode cX7_moveLink 51 = .ok (.getfield 9, 3) := by decide +kernel
theorem dX7_moveLink_54 : decode cX7_moveLink 54 = .ok (.iadd, 1) := by decide +kernel
theorem dX7_moveLink_55 : decode cX7_moveLink 55 = .ok (.putfield 58, 3) := by decide +kernel
theorem dX7_moveLink_58 : decode cX7_moveLink 58 = .ok (.aload_n 0, 1) := by decide +kernel
theorem dX7_moveLink_59 : decode cX7_moveLink 59 = .ok (.aload_n 3, 1) := by decide +kernel
theorem dX7_moveLink_60 : decode cX7_moveLink 60 = .ok (.putfield 54, 3) := by decide +kernel
theorem dX7_moveLink_63 : decode cX7_moveLink 63 = .ok (.return_, 1) := by decide +kernel
set_option maxRecDepth 20000 in
theorem ggX7_launch_X7_placeOfTold : GoodIn wsX7_launch wsX7_placeOfTold := goodIn_r _ [16, 17, 18, 42, 43, 44, 45, 46, 47, 48, 49, 50, 51, 52, 53, 54, 55, 56] (by decide +kernel) (by decide +kernel)
set_option maxRecDepth 20000 in
theorem gX7_launch_X7_placeOfTold : GoodIn wsX7_launch (wsV RX7 50 RX7 yX7_placeOfTold wsX7_placeOfTold) := goodIn_app (goodIn_of _ (by decide +kernel)) ggX7_launch_X7_placeOfTold
set_option maxRecDepth 20000 in
theorem ggX7_launch_X7_forgetTold : GoodIn wsX7_launch wsX7_forgetTold := goodIn_r _ [22, 17, 18, 42, 43, 44, 45, 46, 47, 48, 49, 50, 51, 52, 53, 54, 55, 56] (by decide +kernel) (by decide +kernel)
set_option maxRecDepth 20000 in
theorem gX7_launch_X7_forgetTold : GoodIn wsX7_launch (wsV RX7 71 RX7 yX7_forgetTold wsX7_forgetTold) := goodIn_app (goodIn_of _ (by decide +kernel)) ggX7_launch_X7_forgetTold
set_option maxRecDepth 20000 in
theorem ggX7_launch_X1_takeFirst : GoodIn wsX7_launch wsX1_takeFirst := goodIn_r _ [27, 28, 29, 30, 57, 58, 59, 60, 61, 62, 63, 64, 65, 66] (by decide +kernel) (by decide +kernel)
set_option maxRecDepth 20000 in
theorem gX7_launch_X1_takeFirst : GoodIn wsX7_launch (wsV RX7 67 RX1 yX1_takeFirst wsX1_takeFirst) := goodIn_app (goodIn_of _ (by decide +kernel)) ggX7_launch_X1_takeFirst
set_option maxRecDepth 20000 in
theorem ggX7_launch_X5_init : GoodIn wsX7_launch wsX5_init := goodIn_r _ [32, 33, 34, 35, 36, 37, 60, 61, 62, 63, 64, 65, 66] (by decide +kernel) (by decide +kernel)
set_option maxRecDepth 20000 in
theorem gX7_launch_X5_init_n84 : GoodIn wsX7_launch (wsX5_init) := ggX7_launch_X5_init
set_option maxRecDepth 20000 in
theorem ggX7_launch_X1_append : GoodIn wsX7_launch wsX1_append := goodIn_r _ [41, 30, 28, 29, 60, 61, 62, 63, 64, 65, 66, 57, 58, 59] (by decide +kernel) (by decide +kernel)
set_option maxRecDepth 20000 in
theorem gX7_launch_X1_append : GoodIn wsX7_launch (wsV RX7 95 RX1 yX1_append wsX1_append) := goodIn_app (goodIn_of _ (by decide +kernel)) ggX7_launch_X1_append
theorem dX7_launch_0 : decode cX7_launch 0 = .ok (.aload_n 0, 1) := by decide +kernel
theorem dX7_launch_1 : decode cX7_launch 1 = .ok (.aload_n 0, 1) := by decide +kernel
theorem dX7_launch_2 : decode cX7_launch 2 = .ok (.getfield 44, 3) := by decide +kernel
theorem dX7_launch_5 : decode cX7_launch 5 = .ok (.invokevirtual 50, 3) := by decide +kernel
theorem dX7_launch_8 : decode cX7_launch 8 = .ok (.istore 5, 2) := by decide +kernel
theorem dX7_launch_10 : decode cX7_launch 10 = .ok (.aload_n 0, 1) := by decide +kernel
theorem dX7_launch_11 : decode cX7_launch 11 = .ok (.dup, 1) := by decide +kernel
theorem dX7_launch_12 : decode cX7_launch 12 = .ok (.getfield 44, 3) := by decide +kernel
theorem dX7_launch_15 : decode cX7_launch 15 = .ok (.iconst 1, 1) := by decide +kernel
theorem dX7_launch_16 : decode cX7_launch 16 = .ok (.iadd, 1) := by decide +kernel
theorem dX7_launch_17 : decode cX7_launch 17 = .ok (.putfield 44, 3) := by decide +kernel
theorem dX7_launch_20 : decode cX7_launch 20 = .ok (.iload 5, 2) := by decide +kernel
theorem dX7_launch_22 : decode cX7_launch 22 = .ok (.iconst (-1), 1) := by decide +kernel
theorem dX7_launch_23 : decode cX7_launch 23 = .ok (.if_icmp .eq 20, 3) := by decide +kernel
theorem dX7_launch_26 : decode cX7_launch 26 = .ok (.aload_n 0, 1) := by decide +kernel
theorem dX7_launch_27 : decode cX7_launch 27 = .ok (.iload 5, 2) := by decide +kernel
theorem dX7_launch_29 : decode cX7_launch 29 = .ok (.invokevirtual 71, 3) := by decide +kernel
theorem dX7_launch_32 : decode cX7_launch 32 = .ok (.aload_n 0, 1) := by decide +kernel
theorem dX7_launch_33 : decode cX7_launch 33 = .ok (.dup, 1) := by decide +kernel
theorem dX7_launch_34 : decode cX7_launch 34 = .ok (.getfield 75, 3) := by decide +kernel
theorem dX7_launch_37 : decode cX7_launch 37 = .ok (.iconst 1, 1) := by decide +kernel
theorem dX7_launch_38 : decode cX7_launch 38 = .ok (.iadd, 1) := by decide +kernel
theorem dX7_launch_39 : decode cX7_launch 39 = .ok (.putfield 75, 3) := by decide +kernel
theorem dX7_launch_42 : decode cX7_launch 42 = .ok (.return_, 1) := by decide +kernel
theorem dX7_launch_43 : decode cX7_launch 43 = .ok (.aload_n 0, 1) := by decide +kernel
theorem dX7_launch_44 : decode cX7_launch 44 = .ok (.getfield 54, 3) := by decide +kernel
theorem dX7_launch_47 : decode cX7_launch 47 = .ok (.ifnull 28, 3) := by decide +kernel
theorem dX7_launch_50 : decode cX7_launch 50 = .ok (.aload_n 0, 1) := by decide +kernel
theorem dX7_launch_51 : decode cX7_launch 51 = .ok (.getfield 27, 3) := by decide +kernel
theorem dX7_launch_54 : decode cX7_launch 54 = .ok (.getfield 78, 3) := by decide +kernel
theorem dX7_launch_57 : decode cX7_launch 57 = .ok (.aload_n 0, 1) := by decide +kernel
theorem dX7_launch_58 : decode cX7_launch 58 = .ok (.getfield 15, 3) := by decide +kernel
theorem dX7_launch_61 : decode cX7_launch 61 = .ok (.if_icmp .lt 14, 3) := by decide +kernel
theorem dX7_launch_64 : decode cX7_launch 64 = .ok (.aload_n 0, 1) := by decide +kernel
theorem dX7_launch_65 : decode cX7_launch 65 = .ok (.dup, 1) := by decide +kernel
theorem dX7_launch_66 : decode cX7_launch 66 = .ok (.getfield 81, 3) := by decide +kernel
theorem dX7_launch_69 : decode cX7_launch 69 = .ok (.iconst 1, 1) := by decide +kernel
theorem dX7_launch_70 : decode cX7_launch 70 = .ok (.iadd, 1) := by decide +kernel
theorem dX7_launch_71 : decode cX7_launch 71 = .ok (.putfield 81, 3) := by decide +kernel
theorem dX7_launch_74 : decode cX7_launch 74 = .ok (.return_, 1) := by decide +kernel
theorem dX7_launch_75 : decode cX7_launch 75 = .ok (.aload_n 0, 1) := by decide +kernel
theorem dX7_launch_76 : decode cX7_launch 76 = .ok (.getfield 37, 3) := by decide +kernel
theorem dX7_launch_79 : decode cX7_launch 79 = .ok (.invokevirtual 67, 3) := by decide +kernel
theorem dX7_launch_82 : decode cX7_launch 82 = .ok (.astore 6, 2) := by decide +kernel
theorem dX7_launch_84 : decode cX7_launch 84 = .ok (.aload 6, 2) := by decide +kernel
theorem dX7_launch_86 : decode cX7_launch 86 = .ok (.ifnonnull 12, 3) := by decide +kernel
theorem dX7_launch_89 : decode cX7_launch 89 = .ok (.new 59, 3) := by decide +kernel
theorem dX7_launch_92 : decode cX7_launch 92 = .ok (.dup, 1) := by decide +kernel
theorem dX7_launch_93 : decode cX7_launch 93 = .ok (.invokespecial 84, 3) := by decide +kernel
theorem dX7_launch_96 : decode cX7_launch 96 = .ok (.astore 6, 2) := by decide +kernel
theorem dX7_launch_98 : decode cX7_launch 98 = .ok (.aload 6, 2) := by decide +kernel
theorem dX7_launch_100 : decode cX7_launch 100 = .ok (.iload_n 1, 1) := by decide +kernel
theorem dX7_launch_101 : decode cX7_launch 101 = .ok (.putfield 85, 3) := by decide +kernel
theorem dX7_launch_104 : decode cX7_launch 104 = .ok (.aload 6, 2) := by decide +kernel
theorem dX7_launch_106 : decode cX7_launch 106 = .ok (.iload_n 2, 1) := by decide +kernel
theorem dX7_launch_107 : decode cX7_launch 107 = .ok (.putfield 88, 3) := by decide +kernel
theorem dX7_launch_110 : decode cX7_launch 110 = .ok (.aload 6, 2) := by decide +kernel
theorem dX7_launch_112 : decode cX7_launch 112 = .ok (.iload_n 3, 1) := by decide +kernel
theorem dX7_launch_113 : decode cX7_launch 113 = .ok (.putfield 91, 3) := by decide +kernel
theorem dX7_launch_116 : decode cX7_launch 116 = .ok (.aload_n 0, 1) := by decide +kernel
theorem dX7_launch_117 : decode cX7_launch 117 = .ok (.getfield 54, 3) := by decide +kernel
theorem dX7_launch_120 : decode cX7_launch 120 = .ok (.ifnonnull 24, 3) := by decide +kernel
theorem dX7_launch_123 : decode cX7_launch 123 = .ok (.aload 6, 2) := by decide +kernel
theorem dX7_launch_125 : decode cX7_launch 125 = .ok (.iload 4, 2) := by decide +kernel
theorem dX7_launch_127 : decode cX7_launch 127 = .ok (.aload_n 0, 1) := by decide +kernel
theorem dX7_launch_128 : decode cX7_launch 128 = .ok (.getfield 9, 3) := by decide +kernel
theorem dX7_launch_131 : decode cX7_launch 131 = .ok (.iadd, 1) := by decide +kernel
theorem dX7_launch_132 : decode cX7_launch 132 = .ok (.putfield 58, 3) := by decide +kernel
theorem dX7_launch_135 : decode cX7_launch 135 = .ok (.aload_n 0, 1) := by decide +kernel
theorem dX7_launch_136 : decode cX7_launch 136 = .ok (.aload 6, 2) := by decide +kernel
theorem dX7_launch_138 : decode cX7_launch 138 = .ok (.putfield 54, 3) := by decide +kernel
theorem dX7_launch_141 : decode cX7_launch 141 = .ok (.goto 12, 3) := by decide +kernel
theorem dX7_launch_144 : decode cX7_launch 144 = .ok (.aload_n 0, 1) := by decide +kernel
theorem dX7_launch_145 : decode cX7_launch 145 = .ok (.getfield 27, 3) := by decide +kernel
theorem dX7_launch_148 : decode cX7_launch 148 = .ok (.aload 6, 2) := by decide +kernel
theorem dX7_launch_150 : decode cX7_launch 150 = .ok (.invokevirtual 95, 3) := by decide +kernel
theorem dX7_launch_153 : decode cX7_launch 153 = .ok (.return_, 1) := by decide +kernel
set_option maxRecDepth 20000 in
theorem ggX7_sendAck_X1_takeFirst : GoodIn wsX7_sendAck wsX1_takeFirst := goodIn_r _ [11, 12, 13, 14, 69, 70, 71, 51, 52, 53, 54, 55, 56, 57] (by decide +kernel) (by decide +kernel)
set_option maxRecDepth 20000 in
theorem gX7_sendAck_X1_takeFirst : GoodIn wsX7_sendAck (wsV RX7 67 RX1 yX1_takeFirst wsX1_takeFirst) := goodIn_app (goodIn_of _ (by decide +kernel)) ggX7_sendAck_X1_takeFirst
set_option maxRecDepth 20000 in
theorem ggX7_sendAck_X5_init : GoodIn wsX7_sendAck wsX5_init := goodIn_r _ [16, 17, 18, 19, 20, 21, 51, 52, 53, 54, 55, 56, 57] (by decide +kernel) (by decide +kernel)
set_option maxRecDepth 20000 in
theorem gX7_sendAck_X5_init_n84 : GoodIn wsX7_sendAck (wsX5_init) := ggX7_sendAck_X5_init
set_option maxRecDepth 20000 in
theorem ggX7_sendAck_X4_writeTo : GoodIn wsX7_sendAck wsX4_writeTo := goodIn_r _ [26, 27, 72] (by decide +kernel) (by decide +kernel)
set_option maxRecDepth 20000 in
theorem gX7_sendAck_X4_writeTo : GoodIn wsX7_sendAck (wsV RX7 116 RX4 yX4_writeTo wsX4_writeTo) := goodIn_app (goodIn_of _ (by decide +kernel)) ggX7_sendAck_X4_writeTo
set_option maxRecDepth 20000 in
theorem ggX7_sendAck_X1_putByDue : GoodIn wsX7_sendAck wsX1_putByDue := goodIn_r _ [31, 12, 14, 13, 32, 33, 34, 10, 35, 69, 70, 71, 51, 52, 53, 54, 55, 56, 57] (by decide +kernel) (by decide +kernel)
set_option maxRecDepth 20000 in
theorem gX7_sendAck_X1_putByDue : GoodIn wsX7_sendAck (wsV RX7 63 RX1 yX1_putByDue wsX1_putByDue) := goodIn_app (goodIn_of _ (by decide +kernel)) ggX7_sendAck_X1_putByDue
theorem dX7_sendAck_0 : decode cX7_sendAck 0 = .ok (.aload_n 0, 1) := by decide +kernel
theorem dX7_sendAck_1 : decode cX7_sendAck 1 = .ok (.getfield 37, 3) := by decide +kernel
theorem dX7_sendAck_4 : decode cX7_sendAck 4 = .ok (.invokevirtual 67, 3) := by decide +kernel
theorem dX7_sendAck_7 : decode cX7_sendAck 7 = .ok (.astore 4, 2) := by decide +kernel
theorem dX7_sendAck_9 : decode cX7_sendAck 9 = .ok (.aload 4, 2) := by decide +kernel
theorem dX7_sendAck_11 : decode cX7_sendAck 11 = .ok (.ifnonnull 12, 3) := by decide +kernel
theorem dX7_sendAck_14 : decode cX7_sendAck 14 = .ok (.new 59, 3) := by decide +kernel
theorem dX7_sendAck_17 : decode cX7_sendAck 17 = .ok (.dup, 1) := by decide +kernel
theorem dX7_sendAck_18 : decode cX7_sendAck 18 = .ok (.invokespecial 84, 3) := by decide +kernel
theorem dX7_sendAck_21 : decode cX7_sendAck 21 = .ok (.astore 4, 2) := by decide +kernel
theorem dX7_sendAck_23 : decode cX7_sendAck 23 = .ok (.aload 4, 2) := by decide +kernel
theorem dX7_sendAck_25 : decode cX7_sendAck 25 = .ok (.aload_n 1, 1) := by decide +kernel
theorem dX7_sendAck_26 : decode cX7_sendAck 26 = .ok (.getfield 98, 3) := by decide +kernel
theorem dX7_sendAck_29 : decode cX7_sendAck 29 = .ok (.putfield 85, 3) := by decide +kernel
theorem dX7_sendAck_32 : decode cX7_sendAck 32 = .ok (.aload 4, 2) := by decide +kernel
theorem dX7_sendAck_34 : decode cX7_sendAck 34 = .ok (.aload_n 1, 1) := by decide +kernel
theorem dX7_sendAck_35 : decode cX7_sendAck 35 = .ok (.getfield 101, 3) := by decide +kernel
theorem dX7_sendAck_38 : decode cX7_sendAck 38 = .ok (.putfield 88, 3) := by decide +kernel
theorem dX7_sendAck_41 : decode cX7_sendAck 41 = .ok (.aload 4, 2) := by decide +kernel
theorem dX7_sendAck_43 : decode cX7_sendAck 43 = .ok (.aload_n 1, 1) := by decide +kernel
theorem dX7_sendAck_44 : decode cX7_sendAck 44 = .ok (.getfield 104, 3) := by decide +kernel
theorem dX7_sendAck_47 : decode cX7_sendAck 47 = .ok (.putfield 107, 3) := by decide +kernel
theorem dX7_sendAck_50 : decode cX7_sendAck 50 = .ok (.aload 4, 2) := by decide +kernel
theorem dX7_sendAck_52 : decode cX7_sendAck 52 = .ok (.iload_n 2, 1) := by decide +kernel
theorem dX7_sendAck_53 : decode cX7_sendAck 53 = .ok (.putfield 91, 3) := by decide +kernel
theorem dX7_sendAck_56 : decode cX7_sendAck 56 = .ok (.aload_n 1, 1) := by decide +kernel
theorem dX7_sendAck_57 : decode cX7_sendAck 57 = .ok (.getfield 108, 3) := by decide +kernel
theorem dX7_sendAck_60 : decode cX7_sendAck 60 = .ok (.aload 4, 2) := by decide +kernel
theorem dX7_sendAck_62 : decode cX7_sendAck 62 = .ok (.getfield 112, 3) := by decide +kernel
theorem dX7_sendAck_65 : decode cX7_sendAck 65 = .ok (.invokevirtual 116, 3) := by decide +kernel
theorem dX7_sendAck_68 : decode cX7_sendAck 68 = .ok (.aload 4, 2) := by decide +kernel
theorem dX7_sendAck_70 : decode cX7_sendAck 70 = .ok (.iload_n 3, 1) := by decide +kernel
theorem dX7_sendAck_71 : decode cX7_sendAck 71 = .ok (.aload_n 0, 1) := by decide +kernel
theorem dX7_sendAck_72 : decode cX7_sendAck 72 = .ok (.getfield 21, 3) := by decide +kernel
theorem dX7_sendAck_75 : decode cX7_sendAck 75 = .ok (.iadd, 1) := by decide +kernel
theorem dX7_sendAck_76 : decode cX7_sendAck 76 = .ok (.putfield 58, 3) := by decide +kernel
theorem dX7_sendAck_79 : decode cX7_sendAck 79 = .ok (.aload_n 0, 1) := by decide +kernel
theorem dX7_sendAck_80 : decode cX7_sendAck 80 = .ok (.getfield 34, 3) := by decide +kernel
theorem dX7_sendAck_83 : decode cX7_sendAck 83 = .ok (.aload 4, 2) := by decide +kernel
theorem dX7_sendAck_85 : decode cX7_sendAck 85 = .ok (.invokevirtual 63, 3) := by decide +kernel
theorem dX7_sendAck_88 : decode cX7_sendAck 88 = .ok (.return_, 1) := by decide +kernel
set_option maxRecDepth 20000 in
theorem ggX7_nextDue_X1_firstDue : GoodIn wsX7_nextDue wsX1_firstDue := goodIn_r _ [12, 13, 14, 37, 38, 39, 30, 31, 32, 33, 34, 35, 36] (by decide +kernel) (by decide +kernel)
set_option maxRecDepth 20000 in
theorem gX7_nextDue_X1_firstDue : GoodIn wsX7_nextDue (wsV RX7 122 RX1 yX1_firstDue wsX1_firstDue) := goodIn_app (goodIn_of _ (by decide +kernel)) ggX7_nextDue_X1_firstDue
theorem dX7_nextDue_0 : decode cX7_nextDue 0 = .ok (.aload_n 0, 1) := by decide +kernel
theorem dX7_nextDue_1 : decode cX7_nextDue 1 = .ok (.getfield 31, 3) := by decide +kernel
theorem dX7_nextDue_4 : decode cX7_nextDue 4 = .ok (.invokevirtual 122, 3) := by decide +kernel
theorem dX7_nextDue_7 : decode cX7_nextDue 7 = .ok (.aload_n 0, 1) := by decide +kernel
theorem dX7_nextDue_8 : decode cX7_nextDue 8 = .ok (.getfield 34, 3) := by decide +kernel
theorem dX7_nextDue_11 : decode cX7_nextDue 11 = .ok (.invokevirtual 122, 3) := by decide +kernel
theorem dX7_nextDue_14 : decode cX7_nextDue 14 = .ok (.invokestatic 126, 3) := by decide +kernel
theorem dX7_nextDue_17 : decode cX7_nextDue 17 = .ok (.istore_n 1, 1) := by decide +kernel
theorem dX7_nextDue_18 : decode cX7_nextDue 18 = .ok (.aload_n 0, 1) := by decide +kernel
theorem dX7_nextDue_19 : decode cX7_nextDue 19 = .ok (.getfield 54, 3) := by decide +kernel
theorem dX7_nextDue_22 : decode cX7_nextDue 22 = .ok (.ifnonnull 7, 3) := by decide +kernel
theorem dX7_nextDue_25 : decode cX7_nextDue 25 = .ok (.iload_n 1, 1) := by decide +kernel
theorem dX7_nextDue_26 : decode cX7_nextDue 26 = .ok (.goto 14, 3) := by decide +kernel
theorem dX7_nextDue_29 : decode cX7_nextDue 29 = .ok (.iload_n 1, 1) := by decide +kernel
theorem dX7_nextDue_30 : decode cX7_nextDue 30 = .ok (.aload_n 0, 1) := by decide +kernel
theorem dX7_nextDue_31 : decode cX7_nextDue 31 = .ok (.getfield 54, 3) := by decide +kernel
theorem dX7_nextDue_34 : decode cX7_nextDue 34 = .ok (.getfield 58, 3) := by decide +kernel
theorem dX7_nextDue_37 : decode cX7_nextDue 37 = .ok (.invokestatic 126, 3) := by decide +kernel
theorem dX7_nextDue_40 : decode cX7_nextDue 40 = .ok (.ireturn, 1) := by decide +kernel
theorem dX7_tell_0 : decode cX7_tell 0 = .ok (.iload_n 1, 1) := by decide +kernel
theorem dX7_tell_1 : decode cX7_tell 1 = .ok (.tableswitch 104 2 9 #[47, 52, 60, 65, 70, 78, 86, 99], 47) := by decide +kernel
theorem dX7_tell_48 : decode cX7_tell 48 = .ok (.aload_n 0, 1) := by decide +kernel
theorem dX7_tell_49 : decode cX7_tell 49 = .ok (.getfield 44, 3) := by decide +kernel
theorem dX7_tell_52 : decode cX7_tell 52 = .ok (.ireturn, 1) := by decide +kernel
theorem dX7_tell_53 : decode cX7_tell 53 = .ok (.aload_n 0, 1) := by decide +kernel
theorem dX7_tell_54 : decode cX7_tell 54 = .ok (.getfield 27, 3) := by decide +kernel
theorem dX7_tell_57 : decode cX7_tell 57 = .ok (.getfield 78, 3) := by decide +kernel
theorem dX7_tell_60 : decode cX7_tell 60 = .ok (.ireturn, 1) := by decide +kernel
theorem dX7_tell_61 : decode cX7_tell 61 = .ok (.aload_n 0, 1) := by decide +kernel
theorem dX7_tell_62 : decode cX7_tell 62 = .ok (.getfield 81, 3) := by decide +kernel
theorem dX7_tell_65 : decode cX7_tell 65 = .ok (.ireturn, 1) := by decide +kernel
theorem dX7_tell_66 : decode cX7_tell 66 = .ok (.aload_n 0, 1) := by decide +kernel
theorem dX7_tell_67 : decode cX7_tell 67 = .ok (.getfield 75, 3) := by decide +kernel
theorem dX7_tell_70 : decode cX7_tell 70 = .ok (.ireturn, 1) := by decide +kernel
theorem dX7_tell_71 : decode cX7_tell 71 = .ok (.aload_n 0, 1) := by decide +kernel
theorem dX7_tell_72 : decode cX7_tell 72 = .ok (.getfield 31, 3) := by decide +kernel
theorem dX7_tell_75 : decode cX7_tell 75 = .ok (.getfield 78, 3) := by decide +kernel
theorem dX7_tell_78 : decode cX7_tell 78 = .ok (.ireturn, 1) := by decide +kernel
theorem dX7_tell_79 : decode cX7_tell 79 = .ok (.aload_n 0, 1) := by decide +kernel
theorem dX7_tell_80 : decode cX7_tell 80 = .ok (.getfield 34, 3) := by decide +kernel
theorem dX7_tell_83 : decode cX7_tell 83 = .ok (.getfield 78, 3) := by decide +kernel
theorem dX7_tell_86 : decode cX7_tell 86 = .ok (.ireturn, 1) := by decide +kernel
theorem dX7_tell_87 : decode cX7_tell 87 = .ok (.aload_n 0, 1) := by decide +kernel
theorem dX7_tell_88 : decode cX7_tell 88 = .ok (.getfield 54, 3) := by decide +kernel
theorem dX7_tell_91 : decode cX7_tell 91 = .ok (.ifnonnull 7, 3) := by decide +kernel
theorem dX7_tell_94 : decode cX7_tell 94 = .ok (.iconst 0, 1) := by decide +kernel
theorem dX7_tell_95 : decode cX7_tell 95 = .ok (.goto 4, 3) := by decide +kernel
theorem dX7_tell_98 : decode cX7_tell 98 = .ok (.iconst 1, 1) := by decide +kernel
theorem dX7_tell_99 : decode cX7_tell 99 = .ok (.ireturn, 1) := by decide +kernel
theorem dX7_tell_100 : decode cX7_tell 100 = .ok (.aload_n 0, 1) := by decide +kernel
theorem dX7_tell_101 : decode cX7_tell 101 = .ok (.getfield 132, 3) := by decide +kernel
theorem dX7_tell_104 : decode cX7_tell 104 = .ok (.ireturn, 1) := by decide +kernel
theorem dX7_tell_105 : decode cX7_tell 105 = .ok (.iconst (-1), 1) := by decide +kernel
theorem dX7_tell_106 : decode cX7_tell 106 = .ok (.ireturn, 1) := by decide +kernel
theorem dX7_placeOfTold_0 : decode cX7_placeOfTold 0 = .ok (.iconst 0, 1) := by decide +kernel
theorem dX7_placeOfTold_1 : decode cX7_placeOfTold 1 = .ok (.istore_n 2, 1) := by decide +kernel
theorem dX7_placeOfTold_2 : decode cX7_placeOfTold 2 = .ok (.iload_n 2, 1) := by decide +kernel
theorem dX7_placeOfTold_3 : decode cX7_placeOfTold 3 = .ok (.aload_n 0, 1) := by decide +kernel
theorem dX7_placeOfTold_4 : decode cX7_placeOfTold 4 = .ok (.getfield 47, 3) := by decide +kernel
theorem dX7_placeOfTold_7 : decode cX7_placeOfTold 7 = .ok (.if_icmp .ge 30, 3) := by decide +kernel
theorem dX7_placeOfTold_10 : decode cX7_placeOfTold 10 = .ok (.iload_n 2, 1) := by decide +kernel
theorem dX7_placeOfTold_11 : decode cX7_placeOfTold 11 = .ok (.aload_n 0, 1) := by decide +kernel
theorem dX7_placeOfTold_12 : decode cX7_placeOfTold 12 = .ok (.getfield 40, 3) := by decide +kernel
theorem dX7_placeOfTold_15 : decode cX7_placeOfTold 15 = .ok (.arraylength, 1) := by decide +kernel
theorem dX7_placeOfTold_16 : decode cX7_placeOfTold 16 = .ok (.if_icmp .ge 21, 3) := by decide +kernel
theorem dX7_placeOfTold_19 : decode cX7_placeOfTold 19 = .ok (.aload_n 0, 1) := by decide +kernel
theorem dX7_placeOfTold_20 : decode cX7_placeOfTold 20 = .ok (.getfield 40, 3) := by decide +kernel
theorem dX7_placeOfTold_23 : decode cX7_placeOfTold 23 = .ok (.iload_n 2, 1) := by decide +kernel
theorem dX7_placeOfTold_24 : decode cX7_placeOfTold 24 = .ok (.iaload, 1) := by decide +kernel
theorem dX7_placeOfTold_25 : decode cX7_placeOfTold 25 = .ok (.iload_n 1, 1) := by decide +kernel
theorem dX7_placeOfTold_26 : decode cX7_placeOfTold 26 = .ok (.if_icmp .ne 5, 3) := by decide +kernel
theorem dX7_placeOfTold_29 : decode cX7_placeOfTold 29 = .ok (.iload_n 2, 1) := by decide +kernel
theorem dX7_placeOfTold_30 : decode cX7_placeOfTold 30 = .ok (.ireturn, 1) := by decide +kernel
theorem dX7_placeOfTold_31 : decode cX7_placeOfTold 31 = .ok (.iinc 2 1, 3) := by decide +kernel
theorem dX7_placeOfTold_34 : decode cX7_placeOfTold 34 = .ok (.goto (-32), 3) := by decide +kernel
theorem dX7_placeOfTold_37 : decode cX7_placeOfTold 37 = .ok (.iconst (-1), 1) := by decide +kernel
theorem dX7_placeOfTold_38 : decode cX7_placeOfTold 38 = .ok (.ireturn, 1) := by decide +kernel
theorem dX7_forgetTold_0 : decode cX7_forgetTold 0 = .ok (.iload_n 1, 1) := by decide +kernel
theorem dX7_forgetTold_1 : decode cX7_forgetTold 1 = .ok (.ifCond .lt 48, 3) := by decide +kernel
theorem dX7_forgetTold_4 : decode cX7_forgetTold 4 = .ok (.iload_n 1, 1) := by decide +kernel
theorem dX7_forgetTold_5 : decode cX7_forgetTold 5 = .ok (.aload_n 0, 1) := by decide +kernel
theorem dX7_forgetTold_6 : decode cX7_forgetTold 6 = .ok (.getfield 47, 3) := by decide +kernel
theorem dX7_forgetTold_9 : decode cX7_forgetTold 9 = .ok (.if_icmp .ge 40, 3) := by decide +kernel
theorem dX7_forgetTold_12 : decode cX7_forgetTold 12 = .ok (.aload_n 0, 1) := by decide +kernel
theorem dX7_forgetTold_13 : decode cX7_forgetTold 13 = .ok (.getfield 47, 3) := by decide +kernel
theorem dX7_forgetTold_16 : decode cX7_forgetTold 16 = .ok (.aload_n 0, 1) := by decide +kernel
theorem dX7_forgetTold_17 : decode cX7_forgetTold 17 = .ok (.getfield 40, 3) := by decide +kernel
theorem dX7_forgetTold_20 : decode cX7_forgetTold 20 = .ok (.arraylength, 1) := by decide +kernel
theorem dX7_forgetTold_21 : decode cX7_forgetTold 21 = .ok (.if_icmp .gt 28, 3) := by decide +kernel
theorem dX7_forgetTold_24 : decode cX7_forgetTold 24 = .ok (.aload_n 0, 1) := by decide +kernel
theorem dX7_forgetTold_25 : decode cX7_forgetTold 25 = .ok (.dup, 1) := by decide +kernel
theorem dX7_forgetTold_26 : decode cX7_forgetTold 26 = .ok (.getfield 47, 3) := by decide +kernel
theorem dX7_forgetTold_29 : decode cX7_forgetTold 29 = .ok (.iconst 1, 1) := by decide +kernel
theorem dX7_forgetTold_30 : decode cX7_forgetTold 30 = .ok (.isub, 1) := by decide +kernel
theorem dX7_forgetTold_31 : decode cX7_forgetTold 31 = .ok (.putfield 47, 3) := by decide +kernel
theorem dX7_forgetTold_34 : decode cX7_forgetTold 34 = .ok (.aload_n 0, 1) := by decide +kernel
theorem dX7_forgetTold_35 : decode cX7_forgetTold 35 = .ok (.getfield 40, 3) := by decide +kernel
theorem dX7_forgetTold_38 : decode cX7_forgetTold 38 = .ok (.iload_n 1, 1) := by decide +kernel
theorem dX7_forgetTold_39 : decode cX7_forgetTold 39 = .ok (.aload_n 0, 1) := by decide +kernel
theorem dX7_forgetTold_40 : decode cX7_forgetTold 40 = .ok (.getfield 40, 3) := by decide +kernel
theorem dX7_forgetTold_43 : decode cX7_forgetTold 43 = .ok (.aload_n 0, 1) := by decide +kernel
theorem dX7_forgetTold_44 : decode cX7_forgetTold 44 = .ok (.getfield 47, 3) := by decide +kernel
theorem dX7_forgetTold_47 : decode cX7_forgetTold 47 = .ok (.iaload, 1) := by decide +kernel
theorem dX7_forgetTold_48 : decode cX7_forgetTold 48 = .ok (.iastore, 1) := by decide +kernel
theorem dX7_forgetTold_49 : decode cX7_forgetTold 49 = .ok (.return_, 1) := by decide +kernel
set_option maxRecDepth 20000 in
theorem ggX8_init_X9_init : GoodIn wsX8_init wsX9_init := goodIn_r _ [24, 25, 2, 3, 26, 27, 28, 67, 68, 69, 70, 71, 72] (by decide +kernel) (by decide +kernel)
set_option maxRecDepth 20000 in
theorem gX8_init_X9_init_n27 : GoodIn wsX8_init (wsX9_init) := ggX8_init_X9_init
set_option maxRecDepth 20000 in
theorem ggX8_init_X0_init : GoodIn wsX8_init wsX0_init := goodIn_r _ [30, 31, 2, 3, 32, 33, 34, 35, 36, 37, 38, 39, 40, 41, 42, 82, 73, 74, 75, 76] (by decide +kernel) (by decide +kernel)
set_option maxRecDepth 20000 in
theorem gX8_init_X0_init_n34 : GoodIn wsX8_init (wsX0_init) := ggX8_init_X0_init
set_option maxRecDepth 20000 in
theorem ggX8_init_X2_init : GoodIn wsX8_init wsX2_init := goodIn_r _ [44, 45, 2, 3, 46, 77, 78, 79, 80, 81] (by decide +kernel) (by decide +kernel)
set_option maxRecDepth 20000 in
theorem gX8_init_X2_init_n41 : GoodIn wsX8_init (wsX2_init) := ggX8_init_X2_init
theorem dX8_init_0 : decode cX8_init 0 = .ok (.aload_n 0, 1) := by decide +kernel
theorem dX8_init_1 : decode cX8_init 1 = .ok (.invokespecial 3, 3) := by decide +kernel
theorem dX8_init_4 : decode cX8_init 4 = .ok (.aload_n 0, 1) := by decide +kernel
theorem dX8_init_5 : decode cX8_init 5 = .ok (.sipush 2048, 3) := by decide +kernel
theorem dX8_init_8 : decode cX8_init 8 = .ok (.putfield 9, 3) := by decide +kernel
theorem dX8_init_11 : decode cX8_init 11 = .ok (.aload_n 0, 1) := by decide +kernel
theorem dX8_init_12 : decode cX8_init 12 = .ok (.sipush 2048, 3) := by decide +kernel
theorem dX8_init_15 : decode cX8_init 15 = .ok (.putfield 15, 3) := by decide +kernel
theorem dX8_init_18 : decode cX8_init 18 = .ok (.aload_n 0, 1) := by decide +kernel
theorem dX8_init_19 : decode cX8_init 19 = .ok (.ldc 18, 2) := by decide +kernel
theorem dX8_init_21 : decode cX8_init 21 = .ok (.putfield 19, 3) := by decide +kernel
theorem dX8_init_24 : decode cX8_init 24 = .ok (.aload_n 0, 1) := by decide +kernel
theorem dX8_init_25 : decode cX8_init 25 = .ok (.bipush 40, 2) := by decide +kernel
theorem dX8_init_27 : decode cX8_init 27 = .ok (.putfield 22, 3) := by decide +kernel
theorem dX8_init_30 : decode cX8_init 30 = .ok (.aload_n 0, 1) := by decide +kernel
theorem dX8_init_31 : decode cX8_init 31 = .ok (.new 25, 3) := by decide +kernel
theorem dX8_init_34 : decode cX8_init 34 = .ok (.dup, 1) := by decide +kernel
theorem dX8_init_35 : decode cX8_init 35 = .ok (.invokespecial 27, 3) := by decide +kernel
theorem dX8_init_38 : decode cX8_init 38 = .ok (.putfield 28, 3) := by decide +kernel
theorem dX8_init_41 : decode cX8_init 41 = .ok (.aload_n 0, 1) := by decide +kernel
theorem dX8_init_42 : decode cX8_init 42 = .ok (.new 32, 3) := by decide +kernel
theorem dX8_init_45 : decode cX8_init 45 = .ok (.dup, 1) := by decide +kernel
theorem dX8_init_46 : decode cX8_init 46 = .ok (.invokespecial 34, 3) := by decide +kernel
theorem dX8_init_49 : decode cX8_init 49 = .ok (.putfield 35, 3) := by decide +kernel
theorem dX8_init_52 : decode cX8_init 52 = .ok (.aload_n 0, 1) := by decide +kernel
theorem dX8_init_53 : decode cX8_init 53 = .ok (.new 39, 3) := by decide +kernel
theorem dX8_init_56 : decode cX8_init 56 = .ok (.dup, 1) := by decide +kernel
theorem dX8_init_57 : decode cX8_init 57 = .ok (.invokespecial 41, 3) := by decide +kernel
theorem dX8_init_60 : decode cX8_init 60 = .ok (.putfield 42, 3) := by decide +kernel
theorem dX8_init_63 : decode cX8_init 63 = .ok (.aload_n 0, 1) := by decide +kernel
theorem dX8_init_64 : decode cX8_init 64 = .ok (.iload_n 1, 1) := by decide +kernel
theorem dX8_init_65 : decode cX8_init 65 = .ok (.putfield 46, 3) := by decide +kernel
theorem dX8_init_68 : decode cX8_init 68 = .ok (.aload_n 0, 1) := by decide +kernel
theorem dX8_init_69 : decode cX8_init 69 = .ok (.iload_n 2, 1) := by decide +kernel
theorem dX8_init_70 : decode cX8_init 70 = .ok (.putfield 49, 3) := by decide +kernel
theorem dX8_init_73 : decode cX8_init 73 = .ok (.return_, 1) := by decide +kernel
theorem dX8_addGoal_0 : decode cX8_addGoal 0 = .ok (.aload_n 0, 1) := by decide +kernel
theorem dX8_addGoal_1 : decode cX8_addGoal 1 = .ok (.getfield 52, 3) := by decide +kernel
theorem dX8_addGoal_4 : decode cX8_addGoal 4 = .ok (.ldc 55, 2) := by decide +kernel
theorem dX8_addGoal_6 : decode cX8_addGoal 6 = .ok (.iload_n 1, 1) := by decide +kernel
theorem dX8_addGoal_7 : decode cX8_addGoal 7 = .ok (.isub, 1) := by decide +kernel
theorem dX8_addGoal_8 : decode cX8_addGoal 8 = .ok (.if_icmp .le 5, 3) := by decide +kernel
theorem dX8_addGoal_11 : decode cX8_addGoal 11 = .ok (.iconst (-1), 1) := by decide +kernel
theorem dX8_addGoal_12 : decode cX8_addGoal 12 = .ok (.ireturn, 1) := by decide +kernel
theorem dX8_addGoal_13 : decode cX8_addGoal 13 = .ok (.aload_n 0, 1) := by decide +kernel
theorem dX8_addGoal_14 : decode cX8_addGoal 14 = .ok (.dup, 1) := by decide +kernel
theorem dX8_addGoal_15 : decode cX8_addGoal 15 = .ok (.getfield 52, 3) := by decide +kernel
theorem dX8_addGoal_18 : decode cX8_addGoal 18 = .ok (.iload_n 1, 1) := by decide +kernel
theorem dX8_addGoal_19 : decode cX8_addGoal 19 = .ok (.iadd, 1) := by decide +kernel
theorem dX8_addGoal_20 : decode cX8_addGoal 20 = .ok (.putfield 52, 3) := by decide +kernel
theorem dX8_addGoal_23 : decode cX8_addGoal 23 = .ok (.aload_n 0, 1) := by decide +kernel
theorem dX8_addGoal_24 : decode cX8_addGoal 24 = .ok (.getfield 52, 3) := by decide +kernel
theorem dX8_addGoal_27 : decode cX8_addGoal 27 = .ok (.ireturn, 1) := by decide +kernel
set_option maxRecDepth 20000 in
theorem ggX8_hear_X8_goOn : GoodIn wsX8_hear wsX8_goOn := goodIn_r _ [14, 1, 9, 5, 3, 15, 16, 17, 18, 19, 20, 21, 22, 23, 24, 25, 26, 27, 28, 29, 30, 31, 32, 33, 34, 35, 36, 37, 38, 39, 40, 41, 42, 43, 13, 44, 7, 4, 45, 46, 47, 48, 49, 50, 51, 52, 53, 54, 55, 56, 57, 58, 59, 60, 61, 62, 63, 64, 65, 66, 240, 241, 242, 243, 244, 245, 246, 247, 248, 249, 250, 251, 252, 253, 254, 255, 256, 257, 258, 259, 260, 261, 262, 263, 264, 265, 266, 267, 268, 269, 270] (by decide +kernel) (by decide +kernel)
set_option maxRecDepth 20000 in
theorem gX8_hear_X8_goOn : GoodIn wsX8_hear (wsV RX8 72 RX8 yX8_goOn wsX8_goOn) := goodIn_app (goodIn_of _ (by decide +kernel)) ggX8_hear_X8_goOn
set_option maxRecDepth 20000 in
theorem ggX8_hear_X0_learn : GoodIn wsX8_hear wsX0_learn := goodIn_r _ [70, 71, 72, 73, 74, 75, 54, 76, 56, 77, 78, 79, 80, 81, 82, 83, 84, 266, 267, 268, 269, 270] (by decide +kernel) (by decide +kernel)
set_option maxRecDepth 20000 in
theorem gX8_hear_X0_learn : GoodIn wsX8_hear (wsV RX8 82 RX0 yX0_learn wsX0_learn) := goodIn_app (goodIn_of _ (by decide +kernel)) ggX8_hear_X0_learn
set_option maxRecDepth 20000 in
theorem ggX8_hear_X8_hearInRecovery : GoodIn wsX8_hear wsX8_hearInRecovery := goodIn_r _ [88, 4, 1, 89, 90, 7, 8, 91, 15, 16, 17, 18, 92, 93, 94, 13, 95, 96, 97, 38, 39, 98, 99, 100, 101, 102, 6, 103, 5, 9, 104, 105, 106, 107, 54, 108, 56, 109, 110, 111, 22, 112, 24, 25, 113, 114, 115, 116, 62, 117, 59, 60, 61, 40, 118, 119, 120, 121, 122, 123, 124, 125, 126, 127, 128, 129, 130, 131, 132, 133, 134, 135, 136, 137, 138, 139, 140, 141, 142, 143, 144, 145, 146, 147, 148, 149, 150, 151, 152, 153, 154, 155, 156, 157, 158, 159, 160, 161, 162, 240, 241, 242, 243, 244, 245, 246, 247, 248, 249, 250, 251, 252, 253, 254, 255, 256, 257, 258, 259, 266, 267, 268, 269, 270, 260, 261, 262, 263, 264, 265, 271, 272, 273, 274, 275, 276, 277, 278, 279, 280, 281, 282, 283, 284, 285, 286, 287, 288, 233, 234, 235, 236, 237, 238, 239] (by decide +kernel) (by decide +kernel)
set_option maxRecDepth 20000 in
theorem gX8_hear_X8_hearInRecovery : GoodIn wsX8_hear (wsV RX8 89 RX8 yX8_hearInRecovery wsX8_hearInRecovery) := goodIn_app (goodIn_of _ (by decide +kernel)) ggX8_hear_X8_hearInRecovery
set_option maxRecDepth 20000 in
theorem ggX8_hear_X8_grow : GoodIn wsX8_hear wsX8_grow := goodIn_r _ [166, 91, 90, 4, 167, 9, 168, 15, 16, 17, 18, 92, 93, 94, 13, 95, 96, 97, 38, 39, 98, 169, 170, 171, 172, 173, 174, 175, 176, 177, 178, 179, 180, 181, 182, 183, 184, 185, 186, 187, 188, 189, 190, 191, 192, 193, 194, 195, 196, 197, 198, 199, 200, 201, 202, 240, 241, 242, 243, 244, 245, 246, 247, 248, 249, 250, 251, 252, 253, 254, 255, 256, 257, 258, 259, 260, 261, 262, 263, 264, 265, 289, 290, 291, 292, 293] (by decide +kernel) (by decide +kernel)
set_option maxRecDepth 20000 in
theorem gX8_hear_X8_grow : GoodIn wsX8_hear (wsV RX8 96 RX8 yX8_grow wsX8_grow) := goodIn_app (goodIn_of _ (by decide +kernel)) ggX8_hear_X8_grow
set_option maxRecDepth 20000 in
theorem ggX8_hear_X8_countDuplicate : GoodIn wsX8_hear wsX8_countDuplicate := goodIn_r _ [206, 8, 7, 4, 91, 92, 93, 94, 13, 95, 96, 97, 38, 17, 39, 98, 15, 16, 18, 240, 241, 242, 243, 244, 245, 246, 247, 248, 249, 250, 251, 252, 253, 254, 255, 256, 257, 258, 259] (by decide +kernel) (by decide +kernel)
set_option maxRecDepth 20000 in
theorem gX8_hear_X8_countDuplicate : GoodIn wsX8_hear (wsV RX8 100 RX8 yX8_countDuplicate wsX8_countDuplicate) := goodIn_app (goodIn_of _ (by decide +kernel)) ggX8_hear_X8_countDuplicate
set_option maxRecDepth 20000 in
theorem ggX8_hear_X8_startsRecovery : GoodIn wsX8_hear wsX8_startsRecovery := goodIn_r _ [210, 7, 8, 4, 1, 89, 240, 241, 242, 243, 244, 245, 246, 247, 248, 249, 250, 251, 252, 253, 254, 255, 256, 257, 258, 259] (by decide +kernel) (by decide +kernel)
set_option maxRecDepth 20000 in
theorem gX8_hear_X8_startsRecovery : GoodIn wsX8_hear (wsV RX8 103 RX8 yX8_startsRecovery wsX8_startsRecovery) := goodIn_app (goodIn_of _ (by decide +kernel)) ggX8_hear_X8_startsRecovery
set_option maxRecDepth 20000 in
theorem ggX8_hear_X8_beginRecovery : GoodIn wsX8_hear wsX8_beginRecovery := goodIn_r _ [214, 90, 7, 215, 6, 89, 5, 1, 4, 216, 217, 218, 13, 219, 167, 91, 3, 15, 16, 17, 18, 220, 221, 222, 172, 223, 196, 174, 179, 224, 225, 226, 48, 227, 50, 228, 229, 230, 231, 54, 232, 56, 99, 100, 101, 102, 103, 9, 104, 105, 106, 107, 108, 109, 110, 111, 22, 112, 24, 25, 113, 114, 115, 116, 62, 117, 59, 60, 61, 40, 118, 119, 120, 121, 122, 123, 124, 125, 126, 127, 128, 129, 130, 131, 132, 133, 134, 135, 136, 137, 138, 139, 140, 141, 142, 143, 144, 145, 146, 147, 148, 149, 150, 151, 152, 153, 154, 155, 156, 157, 158, 159, 160, 161, 162, 92, 93, 94, 95, 96, 97, 38, 39, 98, 240, 241, 242, 243, 244, 245, 246, 247, 248, 249, 250, 251, 252, 253, 254, 255, 256, 257, 258, 259, 289, 290, 291, 292, 293, 266, 267, 268, 269, 270, 260, 261, 262, 263, 264, 265, 271, 272, 273, 274, 275, 276, 277, 278, 279, 280, 281, 282, 283, 284, 285, 286, 287, 288, 233, 234, 235, 236, 237, 238, 239] (by decide +kernel) (by decide +kernel)
set_option maxRecDepth 20000 in
theorem gX8_hear_X8_beginRecovery : GoodIn wsX8_hear (wsV RX8 107 RX8 yX8_beginRecovery wsX8_beginRecovery) := goodIn_app (goodIn_of _ (by decide +kernel)) ggX8_hear_X8_beginRecovery
set_option maxRecDepth 20000 in
theorem ggX8_hear_X9_putOff : GoodIn wsX8_hear wsX9_putOff := goodIn_r _ [66, 62, 260, 261, 262, 263, 264, 265] (by decide +kernel) (by decide +kernel)
set_option maxRecDepth 20000 in
theorem gX8_hear_X9_putOff : GoodIn wsX8_hear (wsV RX8 111 RX9 yX9_putOff wsX9_putOff) := goodIn_app (goodIn_of _ (by decide +kernel)) ggX8_hear_X9_putOff
theorem dX8_hear_0 : decode cX8_hear 0 = .ok (.aload_n 1, 1) := by decide +kernel
theorem dX8_hear_1 : decode cX8_hear 1 = .ok (.getfield 56, 3) := by decide +kernel
theorem dX8_hear_4 : decode cX8_hear 4 = .ok (.istore 4, 2) := by decide +kernel
theorem dX8_hear_6 : decode cX8_hear 6 = .ok (.iload 4, 2) := by decide +kernel
theorem dX8_hear_8 : decode cX8_hear 8 = .ok (.aload_n 0, 1) := by decide +kernel
theorem dX8_hear_9 : decode cX8_hear 9 = .ok (.getfield 59, 3) := by decide +kernel
theorem dX8_hear_12 : decode cX8_hear 12 = .ok (.if_icmp .ge 4, 3) := by decide +kernel
theorem dX8_hear_15 : decode cX8_hear 15 = .ok (.return_, 1) := by decide +kernel
theorem dX8_hear_16 : decode cX8_hear 16 = .ok (.iload 4, 2) := by decide +kernel
theorem dX8_hear_18 : decode cX8_hear 18 = .ok (.aload_n 0, 1) := by decide +kernel
theorem dX8_hear_19 : decode cX8_hear 19 = .ok (.getfield 59, 3) := by decide +kernel
theorem dX8_hear_22 : decode cX8_hear 22 = .ok (.if_icmp .ne 36, 3) := by decide +kernel
theorem dX8_hear_25 : decode cX8_hear 25 = .ok (.aload_n 1, 1) := by decide +kernel
theorem dX8_hear_26 : decode cX8_hear 26 = .ok (.getfield 62, 3) := by decide +kernel
theorem dX8_hear_29 : decode cX8_hear 29 = .ok (.aload_n 0, 1) := by decide +kernel
theorem dX8_hear_30 : decode cX8_hear 30 = .ok (.getfield 22, 3) := by decide +kernel
theorem dX8_hear_33 : decode cX8_hear 33 = .ok (.if_icmp .ne 25, 3) := by decide +kernel
theorem dX8_hear_36 : decode cX8_hear 36 = .ok (.aload_n 0, 1) := by decide +kernel
theorem dX8_hear_37 : decode cX8_hear 37 = .ok (.getfield 65, 3) := by decide +kernel
theorem dX8_hear_40 : decode cX8_hear 40 = .ok (.aload_n 0, 1) := by decide +kernel
theorem dX8_hear_41 : decode cX8_hear 41 = .ok (.getfield 59, 3) := by decide +kernel
theorem dX8_hear_44 : decode cX8_hear 44 = .ok (.if_icmp .le 14, 3) := by decide +kernel
theorem dX8_hear_47 : decode cX8_hear 47 = .ok (.aload_n 1, 1) := by decide +kernel
theorem dX8_hear_48 : decode cX8_hear 48 = .ok (.getfield 68, 3) := by decide +kernel
theorem dX8_hear_51 : decode cX8_hear 51 = .ok (.ifCond .ne 7, 3) := by decide +kernel
theorem dX8_hear_54 : decode cX8_hear 54 = .ok (.iconst 1, 1) := by decide +kernel
theorem dX8_hear_55 : decode cX8_hear 55 = .ok (.goto 4, 3) := by decide +kernel
theorem dX8_hear_58 : decode cX8_hear 58 = .ok (.iconst 0, 1) := by decide +kernel
theorem dX8_hear_59 : decode cX8_hear 59 = .ok (.istore 5, 2) := by decide +kernel
theorem dX8_hear_61 : decode cX8_hear 61 = .ok (.iload 4, 2) := by decide +kernel
theorem dX8_hear_63 : decode cX8_hear 63 = .ok (.aload_n 0, 1) := by decide +kernel
theorem dX8_hear_64 : decode cX8_hear 64 = .ok (.getfield 59, 3) := by decide +kernel
theorem dX8_hear_67 : decode cX8_hear 67 = .ok (.isub, 1) := by decide +kernel
theorem dX8_hear_68 : decode cX8_hear 68 = .ok (.istore 6, 2) := by decide +kernel
theorem dX8_hear_70 : decode cX8_hear 70 = .ok (.aload_n 0, 1) := by decide +kernel
theorem dX8_hear_71 : decode cX8_hear 71 = .ok (.aload_n 1, 1) := by decide +kernel
theorem dX8_hear_72 : decode cX8_hear 72 = .ok (.getfield 62, 3) := by decide +kernel
theorem dX8_hear_75 : decode cX8_hear 75 = .ok (.putfield 22, 3) := by decide +kernel
theorem dX8_hear_78 : decode cX8_hear 78 = .ok (.iload 6, 2) := by decide +kernel
theorem dX8_hear_80 : decode cX8_hear 80 = .ok (.ifCond .le 10, 3) := by decide +kernel
theorem dX8_hear_83 : decode cX8_hear 83 = .ok (.aload_n 0, 1) := by decide +kernel
theorem dX8_hear_84 : decode cX8_hear 84 = .ok (.iload 6, 2) := by decide +kernel
theorem dX8_hear_86 : decode cX8_hear 86 = .ok (.iload_n 3, 1) := by decide +kernel
theorem dX8_hear_87 : decode cX8_hear 87 = .ok (.invokevirtual 72, 3) := by decide +kernel
theorem dX8_hear_90 : decode cX8_hear 90 = .ok (.aload_n 0, 1) := by decide +kernel
theorem dX8_hear_91 : decode cX8_hear 91 = .ok (.getfield 49, 3) := by decide +kernel
theorem dX8_hear_94 : decode cX8_hear 94 = .ok (.iconst 3, 1) := by decide +kernel
theorem dX8_hear_95 : decode cX8_hear 95 = .ok (.if_icmp .ne 22, 3) := by decide +kernel
theorem dX8_hear_98 : decode cX8_hear 98 = .ok (.aload_n 0, 1) := by decide +kernel
theorem dX8_hear_99 : decode cX8_hear 99 = .ok (.getfield 35, 3) := by decide +kernel
theorem dX8_hear_102 : decode cX8_hear 102 = .ok (.aload_n 1, 1) := by decide +kernel
theorem dX8_hear_103 : decode cX8_hear 103 = .ok (.getfield 76, 3) := by decide +kernel
theorem dX8_hear_106 : decode cX8_hear 106 = .ok (.aload_n 0, 1) := by decide +kernel
theorem dX8_hear_107 : decode cX8_hear 107 = .ok (.getfield 59, 3) := by decide +kernel
theorem dX8_hear_110 : decode cX8_hear 110 = .ok (.aload_n 0, 1) := by decide +kernel
theorem dX8_hear_111 : decode cX8_hear 111 = .ok (.getfield 79, 3) := by decide +kernel
theorem dX8_hear_114 : decode cX8_hear 114 = .ok (.invokevirtual 82, 3) := by decide +kernel
theorem dX8_hear_117 : decode cX8_hear 117 = .ok (.iload 6, 2) := by decide +kernel
theorem dX8_hear_119 : decode cX8_hear 119 = .ok (.ifCond .le 21, 3) := by decide +kernel
theorem dX8_hear_122 : decode cX8_hear 122 = .ok (.aload_n 0, 1) := by decide +kernel
theorem dX8_hear_123 : decode cX8_hear 123 = .ok (.getfield 86, 3) := by decide +kernel
theorem dX8_hear_126 : decode cX8_hear 126 = .ok (.ifCond .eq 14, 3) := by decide +kernel
theorem dX8_hear_129 : decode cX8_hear 129 = .ok (.aload_n 0, 1) := by decide +kernel
theorem dX8_hear_130 : decode cX8_hear 130 = .ok (.iload 6, 2) := by decide +kernel
theorem dX8_hear_132 : decode cX8_hear 132 = .ok (.aload_n 2, 1) := by decide +kernel
theorem dX8_hear_133 : decode cX8_hear 133 = .ok (.iload_n 3, 1) := by decide +kernel
theorem dX8_hear_134 : decode cX8_hear 134 = .ok (.invokevirtual 89, 3) := by decide +kernel
theorem dX8_hear_137 : decode cX8_hear 137 = .ok (.goto 71, 3) := by decide +kernel
theorem dX8_hear_140 : decode cX8_hear 140 = .ok (.iload 6, 2) := by decide +kernel
theorem dX8_hear_142 : decode cX8_hear 142 = .ok (.ifCond .le 16, 3) := by decide +kernel
theorem dX8_hear_145 : decode cX8_hear 145 = .ok (.aload_n 0, 1) := by decide +kernel
theorem dX8_hear_146 : decode cX8_hear 146 = .ok (.iconst 0, 1) := by decide +kernel
theorem dX8_hear_147 : decode cX8_hear 147 = .ok (.putfield 93, 3) := by decide +kernel
theorem dX8_hear_150 : decode cX8_hear 150 = .ok (.aload_n 0, 1) := by decide +kernel
theorem dX8_hear_151 : decode cX8_hear 151 = .ok (.iload_n 3, 1) := by decide +kernel
theorem dX8_hear_152 : decode cX8_hear 152 = .ok (.invokevirtual 96, 3) := by decide +kernel
theorem dX8_hear_155 : decode cX8_hear 155 = .ok (.goto 53, 3) := by decide +kernel
theorem dX8_hear_158 : decode cX8_hear 158 = .ok (.iload 5, 2) := by decide +kernel
theorem dX8_hear_160 : decode cX8_hear 160 = .ok (.ifCond .eq 23, 3) := by decide +kernel
theorem dX8_hear_163 : decode cX8_hear 163 = .ok (.aload_n 0, 1) := by decide +kernel
theorem dX8_hear_164 : decode cX8_hear 164 = .ok (.invokevirtual 100, 3) := by decide +kernel
theorem dX8_hear_167 : decode cX8_hear 167 = .ok (.aload_n 0, 1) := by decide +kernel
theorem dX8_hear_168 : decode cX8_hear 168 = .ok (.invokevirtual 103, 3) := by decide +kernel
theorem dX8_hear_171 : decode cX8_hear 171 = .ok (.ifCond .eq 37, 3) := by decide +kernel
theorem dX8_hear_174 : decode cX8_hear 174 = .ok (.aload_n 0, 1) := by decide +kernel
theorem dX8_hear_175 : decode cX8_hear 175 = .ok (.aload_n 2, 1) := by decide +kernel
theorem dX8_hear_176 : decode cX8_hear 176 = .ok (.iload_n 3, 1) := by decide +kernel
theorem dX8_hear_177 : decode cX8_hear 177 = .ok (.invokevirtual 107, 3) := by decide +kernel
theorem dX8_hear_180 : decode cX8_hear 180 = .ok (.goto 28, 3) := by decide +kernel
theorem dX8_hear_183 : decode cX8_hear 183 = .ok (.aload_n 0, 1) := by decide +kernel
theorem dX8_hear_184 : decode cX8_hear 184 = .ok (.getfield 22, 3) := by decide +kernel
theorem dX8_hear_187 : decode cX8_hear 187 = .ok (.ifCond .le 21, 3) := by decide +kernel
theorem dX8_hear_190 : decode cX8_hear 190 = .ok (.aload_n 0, 1) := by decide +kernel
theorem dX8_hear_191 : decode cX8_hear 191 = .ok (.getfield 65, 3) := by decide +kernel
theorem dX8_hear_194 : decode cX8_hear 194 = .ok (.aload_n 0, 1) := by decide +kernel
theorem dX8_hear_195 : decode cX8_hear 195 = .ok (.getfield 59, 3) := by decide +kernel
theorem dX8_hear_198 : decode cX8_hear 198 = .ok (.if_icmp .ne 10, 3) := by decide +kernel
theorem dX8_hear_201 : decode cX8_hear 201 = .ok (.aload_n 0, 1) := by decide +kernel
theorem dX8_hear_202 : decode cX8_hear 202 = .ok (.getfield 28, 3) := by decide +kernel
theorem dX8_hear_205 : decode cX8_hear 205 = .ok (.invokevirtual 111, 3) := by decide +kernel
theorem dX8_hear_208 : decode cX8_hear 208 = .ok (.return_, 1) := by decide +kernel
set_option maxRecDepth 20000 in
theorem ggX8_lookAtTimer_X9_putOff : GoodIn wsX8_lookAtTimer wsX9_putOff := goodIn_r _ [10, 11, 147, 148, 149, 150, 151, 152] (by decide +kernel) (by decide +kernel)
set_option maxRecDepth 20000 in
theorem gX8_lookAtTimer_X9_putOff : GoodIn wsX8_lookAtTimer (wsV RX8 111 RX9 yX9_putOff wsX9_putOff) := goodIn_app (goodIn_of _ (by decide +kernel)) ggX8_lookAtTimer_X9_putOff
set_option maxRecDepth 20000 in
theorem ggX8_lookAtTimer_X8_timeOut : GoodIn wsX8_lookAtTimer wsX8_timeOut := goodIn_r _ [16, 17, 1, 18, 19, 20, 21, 22, 3, 2, 23, 24, 25, 26, 15, 27, 28, 29, 30, 31, 32, 33, 34, 35, 36, 37, 38, 39, 40, 41, 42, 43, 44, 45, 46, 47, 48, 49, 50, 51, 52, 53, 54, 9, 55, 56, 57, 58, 59, 60, 61, 62, 63, 64, 65, 66, 67, 68, 69, 70, 71, 127, 128, 129, 130, 131, 132, 133, 134, 135, 136, 137, 138, 139, 140, 141, 142, 143, 144, 145, 146, 153, 154, 155, 156, 157, 147, 148, 149, 150, 151, 152, 158, 159, 160, 161, 162] (by decide +kernel) (by decide +kernel)
set_option maxRecDepth 20000 in
theorem gX8_lookAtTimer_X8_timeOut : GoodIn wsX8_lookAtTimer (wsV RX8 120 RX8 yX8_timeOut wsX8_timeOut) := goodIn_app (goodIn_of _ (by decide +kernel)) ggX8_lookAtTimer_X8_timeOut
set_option maxRecDepth 20000 in
theorem ggX8_lookAtTimer_X8_probe : GoodIn wsX8_lookAtTimer wsX8_probe := goodIn_r _ [75, 76, 21, 2, 31, 32, 33, 34, 77, 1, 78, 79, 80, 81, 82, 83, 84, 85, 86, 87, 88, 89, 90, 91, 92, 93, 94, 95, 96, 97, 98, 99, 100, 101, 102, 103, 104, 105, 106, 107, 108, 109, 110, 111, 112, 113, 114, 115, 116, 117, 118, 119, 120, 121, 122, 52, 53, 54, 9, 55, 56, 57, 58, 49, 50, 123, 124, 125, 126, 11, 127, 128, 129, 130, 131, 132, 133, 134, 135, 136, 137, 138, 139, 140, 141, 142, 143, 144, 145, 146, 163, 164, 165, 166, 167, 168, 169, 170, 171, 172, 173, 174, 175, 176, 177, 178, 179, 180, 181, 182, 183, 184, 185, 186, 187, 147, 148, 149, 150, 151, 152] (by decide +kernel) (by decide +kernel)
set_option maxRecDepth 20000 in
theorem gX8_lookAtTimer_X8_probe : GoodIn wsX8_lookAtTimer (wsV RX8 123 RX8 yX8_probe wsX8_probe) := goodIn_app (goodIn_of _ (by decide +kernel)) ggX8_lookAtTimer_X8_probe
