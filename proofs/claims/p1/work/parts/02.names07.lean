theorem dX11_measures_37 : decode cX11_measures 37 = .ok (.iload_n 1, 1) := by decide +kernel
theorem dX11_measures_38 : decode cX11_measures 38 = .ok (.iconst (-1), 1) := by decide +kernel
theorem dX11_measures_39 : decode cX11_measures 39 = .ok (.iastore, 1) := by decide +kernel
theorem dX11_measures_40 : decode cX11_measures 40 = .ok (.aload_n 0, 1) := by decide +kernel
theorem dX11_measures_41 : decode cX11_measures 41 = .ok (.getfield 124, 3) := by decide +kernel
theorem dX11_measures_44 : decode cX11_measures 44 = .ok (.iload_n 1, 1) := by decide +kernel
theorem dX11_measures_45 : decode cX11_measures 45 = .ok (.baload, 1) := by decide +kernel
theorem dX11_measures_46 : decode cX11_measures 46 = .ok (.ifCond .eq 78, 3) := by decide +kernel
theorem dX11_measures_49 : decode cX11_measures 49 = .ok (.aload_n 0, 1) := by decide +kernel
theorem dX11_measures_50 : decode cX11_measures 50 = .ok (.getfield 118, 3) := by decide +kernel
theorem dX11_measures_53 : decode cX11_measures 53 = .ok (.iload_n 1, 1) := by decide +kernel
theorem dX11_measures_54 : decode cX11_measures 54 = .ok (.iaload, 1) := by decide +kernel
theorem dX11_measures_55 : decode cX11_measures 55 = .ok (.bipush 8, 2) := by decide +kernel
theorem dX11_measures_57 : decode cX11_measures 57 = .ok (.idiv, 1) := by decide +kernel
theorem dX11_measures_58 : decode cX11_measures 58 = .ok (.iload_n 3, 1) := by decide +kernel
theorem dX11_measures_59 : decode cX11_measures 59 = .ok (.isub, 1) := by decide +kernel
theorem dX11_measures_60 : decode cX11_measures 60 = .ok (.istore 4, 2) := by decide +kernel
theorem dX11_measures_62 : decode cX11_measures 62 = .ok (.aload_n 0, 1) := by decide +kernel
theorem dX11_measures_63 : decode cX11_measures 63 = .ok (.getfield 121, 3) := by decide +kernel
theorem dX11_measures_66 : decode cX11_measures 66 = .ok (.iload_n 1, 1) := by decide +kernel
theorem dX11_measures_67 : decode cX11_measures 67 = .ok (.aload_n 0, 1) := by decide +kernel
theorem dX11_measures_68 : decode cX11_measures 68 = .ok (.getfield 121, 3) := by decide +kernel
theorem dX11_measures_71 : decode cX11_measures 71 = .ok (.iload_n 1, 1) := by decide +kernel
theorem dX11_measures_72 : decode cX11_measures 72 = .ok (.iaload, 1) := by decide +kernel
theorem dX11_measures_73 : decode cX11_measures 73 = .ok (.aload_n 0, 1) := by decide +kernel
theorem dX11_measures_74 : decode cX11_measures 74 = .ok (.getfield 121, 3) := by decide +kernel
theorem dX11_measures_77 : decode cX11_measures 77 = .ok (.iload_n 1, 1) := by decide +kernel
theorem dX11_measures_78 : decode cX11_measures 78 = .ok (.iaload, 1) := by decide +kernel
theorem dX11_measures_79 : decode cX11_measures 79 = .ok (.iconst 4, 1) := by decide +kernel
theorem dX11_measures_80 : decode cX11_measures 80 = .ok (.idiv, 1) := by decide +kernel
theorem dX11_measures_81 : decode cX11_measures 81 = .ok (.isub, 1) := by decide +kernel
theorem dX11_measures_82 : decode cX11_measures 82 = .ok (.iload 4, 2) := by decide +kernel
theorem dX11_measures_84 : decode cX11_measures 84 = .ok (.ifCond .ge 9, 3) := by decide +kernel
theorem dX11_measures_87 : decode cX11_measures 87 = .ok (.iload 4, 2) := by decide +kernel
theorem dX11_measures_89 : decode cX11_measures 89 = .ok (.ineg, 1) := by decide +kernel
theorem dX11_measures_90 : decode cX11_measures 90 = .ok (.goto 5, 3) := by decide +kernel
theorem dX11_measures_93 : decode cX11_measures 93 = .ok (.iload 4, 2) := by decide +kernel
theorem dX11_measures_95 : decode cX11_measures 95 = .ok (.iadd, 1) := by decide +kernel
theorem dX11_measures_96 : decode cX11_measures 96 = .ok (.iastore, 1) := by decide +kernel
theorem dX11_measures_97 : decode cX11_measures 97 = .ok (.aload_n 0, 1) := by decide +kernel
theorem dX11_measures_98 : decode cX11_measures 98 = .ok (.getfield 118, 3) := by decide +kernel
theorem dX11_measures_101 : decode cX11_measures 101 = .ok (.iload_n 1, 1) := by decide +kernel
theorem dX11_measures_102 : decode cX11_measures 102 = .ok (.aload_n 0, 1) := by decide +kernel
theorem dX11_measures_103 : decode cX11_measures 103 = .ok (.getfield 118, 3) := by decide +kernel
theorem dX11_measures_106 : decode cX11_measures 106 = .ok (.iload_n 1, 1) := by decide +kernel
theorem dX11_measures_107 : decode cX11_measures 107 = .ok (.iaload, 1) := by decide +kernel
theorem dX11_measures_108 : decode cX11_measures 108 = .ok (.aload_n 0, 1) := by decide +kernel
theorem dX11_measures_109 : decode cX11_measures 109 = .ok (.getfield 118, 3) := by decide +kernel
theorem dX11_measures_112 : decode cX11_measures 112 = .ok (.iload_n 1, 1) := by decide +kernel
theorem dX11_measures_113 : decode cX11_measures 113 = .ok (.iaload, 1) := by decide +kernel
theorem dX11_measures_114 : decode cX11_measures 114 = .ok (.bipush 8, 2) := by decide +kernel
theorem dX11_measures_116 : decode cX11_measures 116 = .ok (.idiv, 1) := by decide +kernel
theorem dX11_measures_117 : decode cX11_measures 117 = .ok (.isub, 1) := by decide +kernel
theorem dX11_measures_118 : decode cX11_measures 118 = .ok (.iload_n 3, 1) := by decide +kernel
theorem dX11_measures_119 : decode cX11_measures 119 = .ok (.iadd, 1) := by decide +kernel
theorem dX11_measures_120 : decode cX11_measures 120 = .ok (.iastore, 1) := by decide +kernel
theorem dX11_measures_121 : decode cX11_measures 121 = .ok (.goto 29, 3) := by decide +kernel
theorem dX11_measures_124 : decode cX11_measures 124 = .ok (.aload_n 0, 1) := by decide +kernel
theorem dX11_measures_125 : decode cX11_measures 125 = .ok (.getfield 124, 3) := by decide +kernel
theorem dX11_measures_128 : decode cX11_measures 128 = .ok (.iload_n 1, 1) := by decide +kernel
theorem dX11_measures_129 : decode cX11_measures 129 = .ok (.iconst 1, 1) := by decide +kernel
theorem dX11_measures_130 : decode cX11_measures 130 = .ok (.bastore, 1) := by decide +kernel
theorem dX11_measures_131 : decode cX11_measures 131 = .ok (.aload_n 0, 1) := by decide +kernel
theorem dX11_measures_132 : decode cX11_measures 132 = .ok (.getfield 118, 3) := by decide +kernel
theorem dX11_measures_135 : decode cX11_measures 135 = .ok (.iload_n 1, 1) := by decide +kernel
theorem dX11_measures_136 : decode cX11_measures 136 = .ok (.bipush 8, 2) := by decide +kernel
theorem dX11_measures_138 : decode cX11_measures 138 = .ok (.iload_n 3, 1) := by decide +kernel
theorem dX11_measures_139 : decode cX11_measures 139 = .ok (.imul, 1) := by decide +kernel
theorem dX11_measures_140 : decode cX11_measures 140 = .ok (.iastore, 1) := by decide +kernel
theorem dX11_measures_141 : decode cX11_measures 141 = .ok (.aload_n 0, 1) := by decide +kernel
theorem dX11_measures_142 : decode cX11_measures 142 = .ok (.getfield 121, 3) := by decide +kernel
theorem dX11_measures_145 : decode cX11_measures 145 = .ok (.iload_n 1, 1) := by decide +kernel
theorem dX11_measures_146 : decode cX11_measures 146 = .ok (.iconst 2, 1) := by decide +kernel
theorem dX11_measures_147 : decode cX11_measures 147 = .ok (.iload_n 3, 1) := by decide +kernel
theorem dX11_measures_148 : decode cX11_measures 148 = .ok (.imul, 1) := by decide +kernel
theorem dX11_measures_149 : decode cX11_measures 149 = .ok (.iastore, 1) := by decide +kernel
theorem dX11_measures_150 : decode cX11_measures 150 = .ok (.aload_n 0, 1) := by decide +kernel
theorem dX11_measures_151 : decode cX11_measures 151 = .ok (.getfield 118, 3) := by decide +kernel
theorem dX11_measures_154 : decode cX11_measures 154 = .ok (.iload_n 1, 1) := by decide +kernel
theorem dX11_measures_155 : decode cX11_measures 155 = .ok (.iaload, 1) := by decide +kernel
theorem dX11_measures_156 : decode cX11_measures 156 = .ok (.bipush 8, 2) := by decide +kernel
theorem dX11_measures_158 : decode cX11_measures 158 = .ok (.idiv, 1) := by decide +kernel
theorem dX11_measures_159 : decode cX11_measures 159 = .ok (.aload_n 0, 1) := by decide +kernel
theorem dX11_measures_160 : decode cX11_measures 160 = .ok (.getfield 121, 3) := by decide +kernel
theorem dX11_measures_163 : decode cX11_measures 163 = .ok (.iload_n 1, 1) := by decide +kernel
theorem dX11_measures_164 : decode cX11_measures 164 = .ok (.iaload, 1) := by decide +kernel
theorem dX11_measures_165 : decode cX11_measures 165 = .ok (.iconst 1, 1) := by decide +kernel
theorem dX11_measures_166 : decode cX11_measures 166 = .ok (.if_icmp .le 12, 3) := by decide +kernel
theorem dX11_measures_169 : decode cX11_measures 169 = .ok (.aload_n 0, 1) := by decide +kernel
theorem dX11_measures_170 : decode cX11_measures 170 = .ok (.getfield 121, 3) := by decide +kernel
theorem dX11_measures_173 : decode cX11_measures 173 = .ok (.iload_n 1, 1) := by decide +kernel
theorem dX11_measures_174 : decode cX11_measures 174 = .ok (.iaload, 1) := by decide +kernel
theorem dX11_measures_175 : decode cX11_measures 175 = .ok (.goto 4, 3) := by decide +kernel
theorem dX11_measures_178 : decode cX11_measures 178 = .ok (.iconst 1, 1) := by decide +kernel
theorem dX11_measures_179 : decode cX11_measures 179 = .ok (.iadd, 1) := by decide +kernel
theorem dX11_measures_180 : decode cX11_measures 180 = .ok (.istore 4, 2) := by decide +kernel
theorem dX11_measures_182 : decode cX11_measures 182 = .ok (.aload_n 0, 1) := by decide +kernel
theorem dX11_measures_183 : decode cX11_measures 183 = .ok (.getfield 115, 3) := by decide +kernel
theorem dX11_measures_186 : decode cX11_measures 186 = .ok (.iload_n 1, 1) := by decide +kernel
theorem dX11_measures_187 : decode cX11_measures 187 = .ok (.iload 4, 2) := by decide +kernel
theorem dX11_measures_189 : decode cX11_measures 189 = .ok (.sipush 200, 3) := by decide +kernel
theorem dX11_measures_192 : decode cX11_measures 192 = .ok (.if_icmp .ge 9, 3) := by decide +kernel
theorem dX11_measures_195 : decode cX11_measures 195 = .ok (.sipush 200, 3) := by decide +kernel
theorem dX11_measures_198 : decode cX11_measures 198 = .ok (.goto 19, 3) := by decide +kernel
theorem dX11_measures_201 : decode cX11_measures 201 = .ok (.iload 4, 2) := by decide +kernel
theorem dX11_measures_203 : decode cX11_measures 203 = .ok (.ldc_w 293, 3) := by decide +kernel
theorem dX11_measures_206 : decode cX11_measures 206 = .ok (.if_icmp .le 9, 3) := by decide +kernel
theorem dX11_measures_209 : decode cX11_measures 209 = .ok (.ldc_w 293, 3) := by decide +kernel
theorem dX11_measures_212 : decode cX11_measures 212 = .ok (.goto 5, 3) := by decide +kernel
theorem dX11_measures_215 : decode cX11_measures 215 = .ok (.iload 4, 2) := by decide +kernel
theorem dX11_measures_217 : decode cX11_measures 217 = .ok (.iastore, 1) := by decide +kernel
theorem dX11_measures_218 : decode cX11_measures 218 = .ok (.return_, 1) := by decide +kernel
theorem dX11_opens_0 : decode cX11_opens 0 = .ok (.aload_n 0, 1) := by decide +kernel
theorem dX11_opens_1 : decode cX11_opens 1 = .ok (.getfield 109, 3) := by decide +kernel
theorem dX11_opens_4 : decode cX11_opens 4 = .ok (.iload_n 1, 1) := by decide +kernel
theorem dX11_opens_5 : decode cX11_opens 5 = .ok (.iload_n 2, 1) := by decide +kernel
theorem dX11_opens_6 : decode cX11_opens 6 = .ok (.ldc_w 294, 3) := by decide +kernel
theorem dX11_opens_9 : decode cX11_opens 9 = .ok (.if_icmp .le 9, 3) := by decide +kernel
theorem dX11_opens_12 : decode cX11_opens 12 = .ok (.ldc_w 294, 3) := by decide +kernel
theorem dX11_opens_15 : decode cX11_opens 15 = .ok (.goto 4, 3) := by decide +kernel
theorem dX11_opens_18 : decode cX11_opens 18 = .ok (.iload_n 2, 1) := by decide +kernel
theorem dX11_opens_19 : decode cX11_opens 19 = .ok (.iastore, 1) := by decide +kernel
theorem dX11_opens_20 : decode cX11_opens 20 = .ok (.aload_n 0, 1) := by decide +kernel
theorem dX11_opens_21 : decode cX11_opens 21 = .ok (.getfield 172, 3) := by decide +kernel
theorem dX11_opens_24 : decode cX11_opens 24 = .ok (.iload_n 1, 1) := by decide +kernel
theorem dX11_opens_25 : decode cX11_opens 25 = .ok (.aload_n 0, 1) := by decide +kernel
theorem dX11_opens_26 : decode cX11_opens 26 = .ok (.getfield 109, 3) := by decide +kernel
theorem dX11_opens_29 : decode cX11_opens 29 = .ok (.iload_n 1, 1) := by decide +kernel
theorem dX11_opens_30 : decode cX11_opens 30 = .ok (.iaload, 1) := by decide +kernel
theorem dX11_opens_31 : decode cX11_opens 31 = .ok (.aload_n 0, 1) := by decide +kernel
theorem dX11_opens_32 : decode cX11_opens 32 = .ok (.getfield 172, 3) := by decide +kernel
theorem dX11_opens_35 : decode cX11_opens 35 = .ok (.iload_n 1, 1) := by decide +kernel
theorem dX11_opens_36 : decode cX11_opens 36 = .ok (.iaload, 1) := by decide +kernel
theorem dX11_opens_37 : decode cX11_opens 37 = .ok (.if_icmp .le 12, 3) := by decide +kernel
theorem dX11_opens_40 : decode cX11_opens 40 = .ok (.aload_n 0, 1) := by decide +kernel
theorem dX11_opens_41 : decode cX11_opens 41 = .ok (.getfield 109, 3) := by decide +kernel
theorem dX11_opens_44 : decode cX11_opens 44 = .ok (.iload_n 1, 1) := by decide +kernel
theorem dX11_opens_45 : decode cX11_opens 45 = .ok (.iaload, 1) := by decide +kernel
theorem dX11_opens_46 : decode cX11_opens 46 = .ok (.goto 9, 3) := by decide +kernel
theorem dX11_opens_49 : decode cX11_opens 49 = .ok (.aload_n 0, 1) := by decide +kernel
theorem dX11_opens_50 : decode cX11_opens 50 = .ok (.getfield 172, 3) := by decide +kernel
theorem dX11_opens_53 : decode cX11_opens 53 = .ok (.iload_n 1, 1) := by decide +kernel
theorem dX11_opens_54 : decode cX11_opens 54 = .ok (.iaload, 1) := by decide +kernel
theorem dX11_opens_55 : decode cX11_opens 55 = .ok (.iastore, 1) := by decide +kernel
theorem dX11_opens_56 : decode cX11_opens 56 = .ok (.return_, 1) := by decide +kernel
set_option maxRecDepth 20000 in
theorem ggX11_moreTold_X11_opens : GoodIn wsX11_moreTold wsX11_opens := goodIn_r _ [12, 3, 13, 14, 65, 66, 67, 68, 69, 70, 71, 72, 73, 74, 75, 76, 77, 78, 79, 80, 81, 82, 83, 84, 85, 86, 87, 88, 89, 90, 91, 92, 93, 94, 95, 96, 97, 98, 99, 100, 101, 102, 103, 104, 105, 106, 107, 108, 109, 110, 111, 112, 113, 114, 115, 116, 117, 118, 119, 120, 121, 122, 123, 124, 125, 126, 127, 128, 129, 130, 131, 132, 133, 134, 135, 136, 137, 138] (by decide +kernel) (by decide +kernel)
set_option maxRecDepth 20000 in
theorem gX11_moreTold_X11_opens : GoodIn wsX11_moreTold (wsV RX11 295 RX11 yX11_opens wsX11_opens) := goodIn_app (goodIn_of _ (by decide +kernel)) ggX11_moreTold_X11_opens
set_option maxRecDepth 20000 in
theorem ggX11_moreTold_X11_grows : GoodIn wsX11_moreTold wsX11_grows := goodIn_r _ [18, 5, 19, 3, 20, 21, 22, 23, 24, 25, 26, 27, 28, 29, 30, 31, 32, 33, 8, 9, 10, 11, 12, 13, 14, 65, 66, 67, 68, 69, 70, 71, 72, 73, 74, 75, 76, 77, 78, 79, 80, 81, 82, 83, 84, 85, 86, 87, 88, 89, 90, 91, 92, 93, 94, 95, 96, 97, 98, 99, 100, 101, 102, 103, 104, 105, 106, 107, 108, 109, 110, 111, 112, 113, 114, 115, 116, 117, 118, 119, 120, 121, 122, 123, 124, 125, 126, 127, 128, 129, 130, 131, 132, 133, 134, 135, 136, 137, 138] (by decide +kernel) (by decide +kernel)
set_option maxRecDepth 20000 in
theorem gX11_moreTold_X11_grows : GoodIn wsX11_moreTold (wsV RX11 298 RX11 yX11_grows wsX11_grows) := goodIn_app (goodIn_of _ (by decide +kernel)) ggX11_moreTold_X11_grows
set_option maxRecDepth 20000 in
theorem ggX11_moreTold_X11_sendsAgain : GoodIn wsX11_moreTold wsX11_sendsAgain := goodIn_r _ [37, 38, 39, 40, 41, 11, 42, 43, 44, 45, 46, 21, 47, 48, 49, 50, 51, 52, 53, 54, 55, 56, 57, 58, 59, 60, 61, 62, 63, 64, 65, 66, 67, 68, 69, 70, 71, 72, 73, 74, 75, 76, 77, 78, 79, 80, 81, 82, 83, 84, 85, 86, 87, 88, 89, 90, 91, 92, 93, 94, 95, 96, 97, 98, 99, 100, 101, 102, 103, 104, 105, 106, 107, 108, 109, 110, 111, 112, 113, 114, 115, 116, 117, 118, 119, 120, 121, 122, 123, 124, 125, 126, 127, 128, 129, 130, 131, 132, 133, 134, 135, 136, 137, 138] (by decide +kernel) (by decide +kernel)
set_option maxRecDepth 20000 in
theorem gX11_moreTold_X11_sendsAgain : GoodIn wsX11_moreTold (wsV RX11 301 RX11 yX11_sendsAgain wsX11_sendsAgain) := goodIn_app (goodIn_of _ (by decide +kernel)) ggX11_moreTold_X11_sendsAgain
theorem dX11_moreTold_0 : decode cX11_moreTold 0 = .ok (.aload_n 0, 1) := by decide +kernel
theorem dX11_moreTold_1 : decode cX11_moreTold 1 = .ok (.getfield 130, 3) := by decide +kernel
theorem dX11_moreTold_4 : decode cX11_moreTold 4 = .ok (.iload_n 1, 1) := by decide +kernel
theorem dX11_moreTold_5 : decode cX11_moreTold 5 = .ok (.baload, 1) := by decide +kernel
theorem dX11_moreTold_6 : decode cX11_moreTold 6 = .ok (.ifCond .ne 49, 3) := by decide +kernel
theorem dX11_moreTold_9 : decode cX11_moreTold 9 = .ok (.aload_n 0, 1) := by decide +kernel
theorem dX11_moreTold_10 : decode cX11_moreTold 10 = .ok (.getfield 127, 3) := by decide +kernel
theorem dX11_moreTold_13 : decode cX11_moreTold 13 = .ok (.iload_n 1, 1) := by decide +kernel
theorem dX11_moreTold_14 : decode cX11_moreTold 14 = .ok (.iconst 0, 1) := by decide +kernel
theorem dX11_moreTold_15 : decode cX11_moreTold 15 = .ok (.iastore, 1) := by decide +kernel
theorem dX11_moreTold_16 : decode cX11_moreTold 16 = .ok (.aload_n 0, 1) := by decide +kernel
theorem dX11_moreTold_17 : decode cX11_moreTold 17 = .ok (.getfield 109, 3) := by decide +kernel
theorem dX11_moreTold_20 : decode cX11_moreTold 20 = .ok (.iload_n 1, 1) := by decide +kernel
theorem dX11_moreTold_21 : decode cX11_moreTold 21 = .ok (.iaload, 1) := by decide +kernel
theorem dX11_moreTold_22 : decode cX11_moreTold 22 = .ok (.aload_n 0, 1) := by decide +kernel
theorem dX11_moreTold_23 : decode cX11_moreTold 23 = .ok (.getfield 112, 3) := by decide +kernel
theorem dX11_moreTold_26 : decode cX11_moreTold 26 = .ok (.iload_n 1, 1) := by decide +kernel
theorem dX11_moreTold_27 : decode cX11_moreTold 27 = .ok (.iaload, 1) := by decide +kernel
theorem dX11_moreTold_28 : decode cX11_moreTold 28 = .ok (.if_icmp .ge 21, 3) := by decide +kernel
theorem dX11_moreTold_31 : decode cX11_moreTold 31 = .ok (.aload_n 0, 1) := by decide +kernel
theorem dX11_moreTold_32 : decode cX11_moreTold 32 = .ok (.iload_n 1, 1) := by decide +kernel
theorem dX11_moreTold_33 : decode cX11_moreTold 33 = .ok (.aload_n 0, 1) := by decide +kernel
theorem dX11_moreTold_34 : decode cX11_moreTold 34 = .ok (.getfield 109, 3) := by decide +kernel
theorem dX11_moreTold_37 : decode cX11_moreTold 37 = .ok (.iload_n 1, 1) := by decide +kernel
theorem dX11_moreTold_38 : decode cX11_moreTold 38 = .ok (.iaload, 1) := by decide +kernel
theorem dX11_moreTold_39 : decode cX11_moreTold 39 = .ok (.sipush 1024, 3) := by decide +kernel
theorem dX11_moreTold_42 : decode cX11_moreTold 42 = .ok (.iadd, 1) := by decide +kernel
theorem dX11_moreTold_43 : decode cX11_moreTold 43 = .ok (.invokevirtual 295, 3) := by decide +kernel
theorem dX11_moreTold_46 : decode cX11_moreTold 46 = .ok (.goto 8, 3) := by decide +kernel
theorem dX11_moreTold_49 : decode cX11_moreTold 49 = .ok (.aload_n 0, 1) := by decide +kernel
theorem dX11_moreTold_50 : decode cX11_moreTold 50 = .ok (.iload_n 1, 1) := by decide +kernel
theorem dX11_moreTold_51 : decode cX11_moreTold 51 = .ok (.invokevirtual 298, 3) := by decide +kernel
theorem dX11_moreTold_54 : decode cX11_moreTold 54 = .ok (.return_, 1) := by decide +kernel
theorem dX11_moreTold_55 : decode cX11_moreTold 55 = .ok (.aload_n 0, 1) := by decide +kernel
theorem dX11_moreTold_56 : decode cX11_moreTold 56 = .ok (.getfield 94, 3) := by decide +kernel
theorem dX11_moreTold_59 : decode cX11_moreTold 59 = .ok (.iload_n 1, 1) := by decide +kernel
theorem dX11_moreTold_60 : decode cX11_moreTold 60 = .ok (.iaload, 1) := by decide +kernel
theorem dX11_moreTold_61 : decode cX11_moreTold 61 = .ok (.ifCond .eq 13, 3) := by decide +kernel
theorem dX11_moreTold_64 : decode cX11_moreTold 64 = .ok (.iload_n 2, 1) := by decide +kernel
theorem dX11_moreTold_65 : decode cX11_moreTold 65 = .ok (.aload_n 0, 1) := by decide +kernel
theorem dX11_moreTold_66 : decode cX11_moreTold 66 = .ok (.getfield 133, 3) := by decide +kernel
theorem dX11_moreTold_69 : decode cX11_moreTold 69 = .ok (.iload_n 1, 1) := by decide +kernel
theorem dX11_moreTold_70 : decode cX11_moreTold 70 = .ok (.iaload, 1) := by decide +kernel
theorem dX11_moreTold_71 : decode cX11_moreTold 71 = .ok (.if_icmp .lt 29, 3) := by decide +kernel
theorem dX11_moreTold_74 : decode cX11_moreTold 74 = .ok (.aload_n 0, 1) := by decide +kernel
theorem dX11_moreTold_75 : decode cX11_moreTold 75 = .ok (.iload_n 1, 1) := by decide +kernel
theorem dX11_moreTold_76 : decode cX11_moreTold 76 = .ok (.aload_n 0, 1) := by decide +kernel
theorem dX11_moreTold_77 : decode cX11_moreTold 77 = .ok (.getfield 112, 3) := by decide +kernel
theorem dX11_moreTold_80 : decode cX11_moreTold 80 = .ok (.iload_n 1, 1) := by decide +kernel
theorem dX11_moreTold_81 : decode cX11_moreTold 81 = .ok (.iaload, 1) := by decide +kernel
theorem dX11_moreTold_82 : decode cX11_moreTold 82 = .ok (.invokevirtual 295, 3) := by decide +kernel
theorem dX11_moreTold_85 : decode cX11_moreTold 85 = .ok (.aload_n 0, 1) := by decide +kernel
theorem dX11_moreTold_86 : decode cX11_moreTold 86 = .ok (.getfield 130, 3) := by decide +kernel
theorem dX11_moreTold_89 : decode cX11_moreTold 89 = .ok (.iload_n 1, 1) := by decide +kernel
theorem dX11_moreTold_90 : decode cX11_moreTold 90 = .ok (.iconst 0, 1) := by decide +kernel
theorem dX11_moreTold_91 : decode cX11_moreTold 91 = .ok (.bastore, 1) := by decide +kernel
theorem dX11_moreTold_92 : decode cX11_moreTold 92 = .ok (.aload_n 0, 1) := by decide +kernel
theorem dX11_moreTold_93 : decode cX11_moreTold 93 = .ok (.getfield 127, 3) := by decide +kernel
theorem dX11_moreTold_96 : decode cX11_moreTold 96 = .ok (.iload_n 1, 1) := by decide +kernel
theorem dX11_moreTold_97 : decode cX11_moreTold 97 = .ok (.iconst 0, 1) := by decide +kernel
theorem dX11_moreTold_98 : decode cX11_moreTold 98 = .ok (.iastore, 1) := by decide +kernel
theorem dX11_moreTold_99 : decode cX11_moreTold 99 = .ok (.return_, 1) := by decide +kernel
theorem dX11_moreTold_100 : decode cX11_moreTold 100 = .ok (.aload_n 0, 1) := by decide +kernel
theorem dX11_moreTold_101 : decode cX11_moreTold 101 = .ok (.getfield 94, 3) := by decide +kernel
theorem dX11_moreTold_104 : decode cX11_moreTold 104 = .ok (.iload_n 1, 1) := by decide +kernel
theorem dX11_moreTold_105 : decode cX11_moreTold 105 = .ok (.iaload, 1) := by decide +kernel
theorem dX11_moreTold_106 : decode cX11_moreTold 106 = .ok (.iconst 3, 1) := by decide +kernel
theorem dX11_moreTold_107 : decode cX11_moreTold 107 = .ok (.if_icmp .ne 4, 3) := by decide +kernel
theorem dX11_moreTold_110 : decode cX11_moreTold 110 = .ok (.return_, 1) := by decide +kernel
theorem dX11_moreTold_111 : decode cX11_moreTold 111 = .ok (.aload_n 0, 1) := by decide +kernel
theorem dX11_moreTold_112 : decode cX11_moreTold 112 = .ok (.iload_n 1, 1) := by decide +kernel
theorem dX11_moreTold_113 : decode cX11_moreTold 113 = .ok (.aload_n 0, 1) := by decide +kernel
theorem dX11_moreTold_114 : decode cX11_moreTold 114 = .ok (.getfield 100, 3) := by decide +kernel
theorem dX11_moreTold_117 : decode cX11_moreTold 117 = .ok (.iload_n 1, 1) := by decide +kernel
theorem dX11_moreTold_118 : decode cX11_moreTold 118 = .ok (.iaload, 1) := by decide +kernel
theorem dX11_moreTold_119 : decode cX11_moreTold 119 = .ok (.invokevirtual 301, 3) := by decide +kernel
theorem dX11_moreTold_122 : decode cX11_moreTold 122 = .ok (.aload_n 0, 1) := by decide +kernel
theorem dX11_moreTold_123 : decode cX11_moreTold 123 = .ok (.getfield 109, 3) := by decide +kernel
theorem dX11_moreTold_126 : decode cX11_moreTold 126 = .ok (.iload_n 1, 1) := by decide +kernel
theorem dX11_moreTold_127 : decode cX11_moreTold 127 = .ok (.iaload, 1) := by decide +kernel
theorem dX11_moreTold_128 : decode cX11_moreTold 128 = .ok (.sipush 1024, 3) := by decide +kernel
theorem dX11_moreTold_131 : decode cX11_moreTold 131 = .ok (.iload_n 3, 1) := by decide +kernel
theorem dX11_moreTold_132 : decode cX11_moreTold 132 = .ok (.imul, 1) := by decide +kernel
theorem dX11_moreTold_133 : decode cX11_moreTold 133 = .ok (.isub, 1) := by decide +kernel
theorem dX11_moreTold_134 : decode cX11_moreTold 134 = .ok (.sipush 1024, 3) := by decide +kernel
theorem dX11_moreTold_137 : decode cX11_moreTold 137 = .ok (.iadd, 1) := by decide +kernel
theorem dX11_moreTold_138 : decode cX11_moreTold 138 = .ok (.istore 4, 2) := by decide +kernel
theorem dX11_moreTold_140 : decode cX11_moreTold 140 = .ok (.aload_n 0, 1) := by decide +kernel
theorem dX11_moreTold_141 : decode cX11_moreTold 141 = .ok (.iload_n 1, 1) := by decide +kernel
theorem dX11_moreTold_142 : decode cX11_moreTold 142 = .ok (.iload 4, 2) := by decide +kernel
theorem dX11_moreTold_144 : decode cX11_moreTold 144 = .ok (.sipush 1024, 3) := by decide +kernel
theorem dX11_moreTold_147 : decode cX11_moreTold 147 = .ok (.if_icmp .ge 9, 3) := by decide +kernel
theorem dX11_moreTold_150 : decode cX11_moreTold 150 = .ok (.sipush 1024, 3) := by decide +kernel
theorem dX11_moreTold_153 : decode cX11_moreTold 153 = .ok (.goto 5, 3) := by decide +kernel
theorem dX11_moreTold_156 : decode cX11_moreTold 156 = .ok (.iload 4, 2) := by decide +kernel
theorem dX11_moreTold_158 : decode cX11_moreTold 158 = .ok (.invokevirtual 295, 3) := by decide +kernel
theorem dX11_moreTold_161 : decode cX11_moreTold 161 = .ok (.return_, 1) := by decide +kernel
set_option maxRecDepth 20000 in
theorem ggX11_duplicate_X11_opens : GoodIn wsX11_duplicate wsX11_opens := goodIn_r _ [16, 4, 17, 18, 56, 57, 58, 59, 60, 61, 62, 63, 64, 65, 66, 67, 68, 69, 70, 71, 72, 73, 74, 75, 76, 77, 78, 79, 80, 81, 82, 83, 84, 85, 86, 87, 88, 89, 90, 91, 92, 93, 94, 95, 96, 97, 98, 99, 100, 101, 102, 103, 104, 105, 106, 107, 108, 109, 110, 111, 112, 113, 114, 115, 116, 117, 118, 119, 120, 121, 122, 123, 124, 125, 126, 127, 128, 129] (by decide +kernel) (by decide +kernel)
set_option maxRecDepth 20000 in
theorem gX11_duplicate_X11_opens : GoodIn wsX11_duplicate (wsV RX11 295 RX11 yX11_opens wsX11_opens) := goodIn_app (goodIn_of _ (by decide +kernel)) ggX11_duplicate_X11_opens
set_option maxRecDepth 20000 in
theorem ggX11_duplicate_X11_loses : GoodIn wsX11_duplicate wsX11_loses := goodIn_r _ [22, 3, 23, 5, 11, 24, 4, 25, 56, 57, 58, 59, 60, 61, 62, 63, 64, 65, 66, 67, 68, 69, 70, 71, 72, 73, 74, 75, 76, 77, 78, 79, 80, 81, 82, 83, 84, 85, 86, 87, 88, 89, 90, 91, 92, 93, 94, 95, 96, 97, 98, 99, 100, 101, 102, 103, 104, 105, 106, 107, 108, 109, 110, 111, 112, 113, 114, 115, 116, 117, 118, 119, 120, 121, 122, 123, 124, 125, 126, 127, 128, 129] (by decide +kernel) (by decide +kernel)
set_option maxRecDepth 20000 in
theorem gX11_duplicate_X11_loses : GoodIn wsX11_duplicate (wsV RX11 304 RX11 yX11_loses wsX11_loses) := goodIn_app (goodIn_of _ (by decide +kernel)) ggX11_duplicate_X11_loses
set_option maxRecDepth 20000 in
theorem ggX11_duplicate_X11_sendsAgain : GoodIn wsX11_duplicate wsX11_sendsAgain := goodIn_r _ [29, 9, 30, 31, 32, 15, 33, 8, 34, 35, 36, 37, 38, 39, 40, 41, 42, 43, 44, 45, 46, 47, 48, 49, 50, 51, 52, 53, 54, 55, 56, 57, 58, 59, 60, 61, 62, 63, 64, 65, 66, 67, 68, 69, 70, 71, 72, 73, 74, 75, 76, 77, 78, 79, 80, 81, 82, 83, 84, 85, 86, 87, 88, 89, 90, 91, 92, 93, 94, 95, 96, 97, 98, 99, 100, 101, 102, 103, 104, 105, 106, 107, 108, 109, 110, 111, 112, 113, 114, 115, 116, 117, 118, 119, 120, 121, 122, 123, 124, 125, 126, 127, 128, 129] (by decide +kernel) (by decide +kernel)
set_option maxRecDepth 20000 in
theorem gX11_duplicate_X11_sendsAgain : GoodIn wsX11_duplicate (wsV RX11 301 RX11 yX11_sendsAgain wsX11_sendsAgain) := goodIn_app (goodIn_of _ (by decide +kernel)) ggX11_duplicate_X11_sendsAgain
theorem dX11_duplicate_0 : decode cX11_duplicate 0 = .ok (.aload_n 0, 1) := by decide +kernel
theorem dX11_duplicate_1 : decode cX11_duplicate 1 = .ok (.getfield 127, 3) := by decide +kernel
theorem dX11_duplicate_4 : decode cX11_duplicate 4 = .ok (.iload_n 1, 1) := by decide +kernel
theorem dX11_duplicate_5 : decode cX11_duplicate 5 = .ok (.dup2, 1) := by decide +kernel
theorem dX11_duplicate_6 : decode cX11_duplicate 6 = .ok (.iaload, 1) := by decide +kernel
theorem dX11_duplicate_7 : decode cX11_duplicate 7 = .ok (.iconst 1, 1) := by decide +kernel
theorem dX11_duplicate_8 : decode cX11_duplicate 8 = .ok (.iadd, 1) := by decide +kernel
theorem dX11_duplicate_9 : decode cX11_duplicate 9 = .ok (.iastore, 1) := by decide +kernel
theorem dX11_duplicate_10 : decode cX11_duplicate 10 = .ok (.aload_n 0, 1) := by decide +kernel
theorem dX11_duplicate_11 : decode cX11_duplicate 11 = .ok (.getfield 130, 3) := by decide +kernel
theorem dX11_duplicate_14 : decode cX11_duplicate 14 = .ok (.iload_n 1, 1) := by decide +kernel
theorem dX11_duplicate_15 : decode cX11_duplicate 15 = .ok (.baload, 1) := by decide +kernel
theorem dX11_duplicate_16 : decode cX11_duplicate 16 = .ok (.ifCond .eq 29, 3) := by decide +kernel
theorem dX11_duplicate_19 : decode cX11_duplicate 19 = .ok (.aload_n 0, 1) := by decide +kernel
theorem dX11_duplicate_20 : decode cX11_duplicate 20 = .ok (.getfield 94, 3) := by decide +kernel
theorem dX11_duplicate_23 : decode cX11_duplicate 23 = .ok (.iload_n 1, 1) := by decide +kernel
theorem dX11_duplicate_24 : decode cX11_duplicate 24 = .ok (.iaload, 1) := by decide +kernel
theorem dX11_duplicate_25 : decode cX11_duplicate 25 = .ok (.iconst 3, 1) := by decide +kernel
theorem dX11_duplicate_26 : decode cX11_duplicate 26 = .ok (.if_icmp .eq 18, 3) := by decide +kernel
theorem dX11_duplicate_29 : decode cX11_duplicate 29 = .ok (.aload_n 0, 1) := by decide +kernel
theorem dX11_duplicate_30 : decode cX11_duplicate 30 = .ok (.iload_n 1, 1) := by decide +kernel
theorem dX11_duplicate_31 : decode cX11_duplicate 31 = .ok (.aload_n 0, 1) := by decide +kernel
theorem dX11_duplicate_32 : decode cX11_duplicate 32 = .ok (.getfield 109, 3) := by decide +kernel
theorem dX11_duplicate_35 : decode cX11_duplicate 35 = .ok (.iload_n 1, 1) := by decide +kernel
theorem dX11_duplicate_36 : decode cX11_duplicate 36 = .ok (.iaload, 1) := by decide +kernel
theorem dX11_duplicate_37 : decode cX11_duplicate 37 = .ok (.sipush 1024, 3) := by decide +kernel
theorem dX11_duplicate_40 : decode cX11_duplicate 40 = .ok (.iadd, 1) := by decide +kernel
theorem dX11_duplicate_41 : decode cX11_duplicate 41 = .ok (.invokevirtual 295, 3) := by decide +kernel
theorem dX11_duplicate_44 : decode cX11_duplicate 44 = .ok (.return_, 1) := by decide +kernel
theorem dX11_duplicate_45 : decode cX11_duplicate 45 = .ok (.aload_n 0, 1) := by decide +kernel
theorem dX11_duplicate_46 : decode cX11_duplicate 46 = .ok (.getfield 127, 3) := by decide +kernel
theorem dX11_duplicate_49 : decode cX11_duplicate 49 = .ok (.iload_n 1, 1) := by decide +kernel
theorem dX11_duplicate_50 : decode cX11_duplicate 50 = .ok (.iaload, 1) := by decide +kernel
theorem dX11_duplicate_51 : decode cX11_duplicate 51 = .ok (.iconst 3, 1) := by decide +kernel
theorem dX11_duplicate_52 : decode cX11_duplicate 52 = .ok (.if_icmp .ne 27, 3) := by decide +kernel
theorem dX11_duplicate_55 : decode cX11_duplicate 55 = .ok (.aload_n 0, 1) := by decide +kernel
theorem dX11_duplicate_56 : decode cX11_duplicate 56 = .ok (.getfield 94, 3) := by decide +kernel
theorem dX11_duplicate_59 : decode cX11_duplicate 59 = .ok (.iload_n 1, 1) := by decide +kernel
theorem dX11_duplicate_60 : decode cX11_duplicate 60 = .ok (.iaload, 1) := by decide +kernel
theorem dX11_duplicate_61 : decode cX11_duplicate 61 = .ok (.ifCond .eq 19, 3) := by decide +kernel
theorem dX11_duplicate_64 : decode cX11_duplicate 64 = .ok (.aload_n 0, 1) := by decide +kernel
theorem dX11_duplicate_65 : decode cX11_duplicate 65 = .ok (.getfield 100, 3) := by decide +kernel
theorem dX11_duplicate_68 : decode cX11_duplicate 68 = .ok (.iload_n 1, 1) := by decide +kernel
theorem dX11_duplicate_69 : decode cX11_duplicate 69 = .ok (.iaload, 1) := by decide +kernel
theorem dX11_duplicate_70 : decode cX11_duplicate 70 = .ok (.aload_n 0, 1) := by decide +kernel
theorem dX11_duplicate_71 : decode cX11_duplicate 71 = .ok (.getfield 133, 3) := by decide +kernel
theorem dX11_duplicate_74 : decode cX11_duplicate 74 = .ok (.iload_n 1, 1) := by decide +kernel
theorem dX11_duplicate_75 : decode cX11_duplicate 75 = .ok (.iaload, 1) := by decide +kernel
theorem dX11_duplicate_76 : decode cX11_duplicate 76 = .ok (.if_icmp .ge 4, 3) := by decide +kernel
theorem dX11_duplicate_79 : decode cX11_duplicate 79 = .ok (.return_, 1) := by decide +kernel
theorem dX11_duplicate_80 : decode cX11_duplicate 80 = .ok (.aload_n 0, 1) := by decide +kernel
theorem dX11_duplicate_81 : decode cX11_duplicate 81 = .ok (.getfield 130, 3) := by decide +kernel
theorem dX11_duplicate_84 : decode cX11_duplicate 84 = .ok (.iload_n 1, 1) := by decide +kernel
theorem dX11_duplicate_85 : decode cX11_duplicate 85 = .ok (.iconst 1, 1) := by decide +kernel
theorem dX11_duplicate_86 : decode cX11_duplicate 86 = .ok (.bastore, 1) := by decide +kernel
theorem dX11_duplicate_87 : decode cX11_duplicate 87 = .ok (.aload_n 0, 1) := by decide +kernel
theorem dX11_duplicate_88 : decode cX11_duplicate 88 = .ok (.getfield 142, 3) := by decide +kernel
theorem dX11_duplicate_91 : decode cX11_duplicate 91 = .ok (.iload_n 1, 1) := by decide +kernel
theorem dX11_duplicate_92 : decode cX11_duplicate 92 = .ok (.dup2, 1) := by decide +kernel
theorem dX11_duplicate_93 : decode cX11_duplicate 93 = .ok (.iaload, 1) := by decide +kernel
theorem dX11_duplicate_94 : decode cX11_duplicate 94 = .ok (.iconst 1, 1) := by decide +kernel
theorem dX11_duplicate_95 : decode cX11_duplicate 95 = .ok (.iadd, 1) := by decide +kernel
theorem dX11_duplicate_96 : decode cX11_duplicate 96 = .ok (.iastore, 1) := by decide +kernel
theorem dX11_duplicate_97 : decode cX11_duplicate 97 = .ok (.aload_n 0, 1) := by decide +kernel
theorem dX11_duplicate_98 : decode cX11_duplicate 98 = .ok (.iload_n 1, 1) := by decide +kernel
theorem dX11_duplicate_99 : decode cX11_duplicate 99 = .ok (.invokevirtual 304, 3) := by decide +kernel
theorem dX11_duplicate_102 : decode cX11_duplicate 102 = .ok (.aload_n 0, 1) := by decide +kernel
theorem dX11_duplicate_103 : decode cX11_duplicate 103 = .ok (.getfield 133, 3) := by decide +kernel
theorem dX11_duplicate_106 : decode cX11_duplicate 106 = .ok (.iload_n 1, 1) := by decide +kernel
theorem dX11_duplicate_107 : decode cX11_duplicate 107 = .ok (.aload_n 0, 1) := by decide +kernel
theorem dX11_duplicate_108 : decode cX11_duplicate 108 = .ok (.getfield 106, 3) := by decide +kernel
theorem dX11_duplicate_111 : decode cX11_duplicate 111 = .ok (.iload_n 1, 1) := by decide +kernel
theorem dX11_duplicate_112 : decode cX11_duplicate 112 = .ok (.iaload, 1) := by decide +kernel
theorem dX11_duplicate_113 : decode cX11_duplicate 113 = .ok (.iastore, 1) := by decide +kernel
theorem dX11_duplicate_114 : decode cX11_duplicate 114 = .ok (.iconst 0, 1) := by decide +kernel
theorem dX11_duplicate_115 : decode cX11_duplicate 115 = .ok (.istore_n 2, 1) := by decide +kernel
theorem dX11_duplicate_116 : decode cX11_duplicate 116 = .ok (.iload_n 2, 1) := by decide +kernel
theorem dX11_duplicate_117 : decode cX11_duplicate 117 = .ok (.sipush 512, 3) := by decide +kernel
theorem dX11_duplicate_120 : decode cX11_duplicate 120 = .ok (.if_icmp .ge 22, 3) := by decide +kernel
theorem dX11_duplicate_123 : decode cX11_duplicate 123 = .ok (.aload_n 0, 1) := by decide +kernel
theorem dX11_duplicate_124 : decode cX11_duplicate 124 = .ok (.getfield 184, 3) := by decide +kernel
theorem dX11_duplicate_127 : decode cX11_duplicate 127 = .ok (.sipush 512, 3) := by decide +kernel
theorem dX11_duplicate_130 : decode cX11_duplicate 130 = .ok (.iload_n 1, 1) := by decide +kernel
theorem dX11_duplicate_131 : decode cX11_duplicate 131 = .ok (.imul, 1) := by decide +kernel
theorem dX11_duplicate_132 : decode cX11_duplicate 132 = .ok (.iload_n 2, 1) := by decide +kernel
theorem dX11_duplicate_133 : decode cX11_duplicate 133 = .ok (.iadd, 1) := by decide +kernel
theorem dX11_duplicate_134 : decode cX11_duplicate 134 = .ok (.iconst 0, 1) := by decide +kernel
theorem dX11_duplicate_135 : decode cX11_duplicate 135 = .ok (.bastore, 1) := by decide +kernel
theorem dX11_duplicate_136 : decode cX11_duplicate 136 = .ok (.iinc 2 1, 3) := by decide +kernel
theorem dX11_duplicate_139 : decode cX11_duplicate 139 = .ok (.goto (-23), 3) := by decide +kernel
theorem dX11_duplicate_142 : decode cX11_duplicate 142 = .ok (.aload_n 0, 1) := by decide +kernel
theorem dX11_duplicate_143 : decode cX11_duplicate 143 = .ok (.getfield 136, 3) := by decide +kernel
theorem dX11_duplicate_146 : decode cX11_duplicate 146 = .ok (.iload_n 1, 1) := by decide +kernel
theorem dX11_duplicate_147 : decode cX11_duplicate 147 = .ok (.aload_n 0, 1) := by decide +kernel
theorem dX11_duplicate_148 : decode cX11_duplicate 148 = .ok (.getfield 100, 3) := by decide +kernel
theorem dX11_duplicate_151 : decode cX11_duplicate 151 = .ok (.iload_n 1, 1) := by decide +kernel
theorem dX11_duplicate_152 : decode cX11_duplicate 152 = .ok (.iaload, 1) := by decide +kernel
theorem dX11_duplicate_153 : decode cX11_duplicate 153 = .ok (.iastore, 1) := by decide +kernel
theorem dX11_duplicate_154 : decode cX11_duplicate 154 = .ok (.aload_n 0, 1) := by decide +kernel
theorem dX11_duplicate_155 : decode cX11_duplicate 155 = .ok (.iload_n 1, 1) := by decide +kernel
theorem dX11_duplicate_156 : decode cX11_duplicate 156 = .ok (.aload_n 0, 1) := by decide +kernel
theorem dX11_duplicate_157 : decode cX11_duplicate 157 = .ok (.getfield 100, 3) := by decide +kernel
theorem dX11_duplicate_160 : decode cX11_duplicate 160 = .ok (.iload_n 1, 1) := by decide +kernel
theorem dX11_duplicate_161 : decode cX11_duplicate 161 = .ok (.iaload, 1) := by decide +kernel
theorem dX11_duplicate_162 : decode cX11_duplicate 162 = .ok (.invokevirtual 301, 3) := by decide +kernel
theorem dX11_duplicate_165 : decode cX11_duplicate 165 = .ok (.aload_n 0, 1) := by decide +kernel
theorem dX11_duplicate_166 : decode cX11_duplicate 166 = .ok (.iload_n 1, 1) := by decide +kernel
theorem dX11_duplicate_167 : decode cX11_duplicate 167 = .ok (.aload_n 0, 1) := by decide +kernel
theorem dX11_duplicate_168 : decode cX11_duplicate 168 = .ok (.getfield 112, 3) := by decide +kernel
theorem dX11_duplicate_171 : decode cX11_duplicate 171 = .ok (.iload_n 1, 1) := by decide +kernel
theorem dX11_duplicate_172 : decode cX11_duplicate 172 = .ok (.iaload, 1) := by decide +kernel
theorem dX11_duplicate_173 : decode cX11_duplicate 173 = .ok (.aload_n 0, 1) := by decide +kernel
theorem dX11_duplicate_174 : decode cX11_duplicate 174 = .ok (.getfield 94, 3) := by decide +kernel
theorem dX11_duplicate_177 : decode cX11_duplicate 177 = .ok (.iload_n 1, 1) := by decide +kernel
theorem dX11_duplicate_178 : decode cX11_duplicate 178 = .ok (.iaload, 1) := by decide +kernel
theorem dX11_duplicate_179 : decode cX11_duplicate 179 = .ok (.iconst 3, 1) := by decide +kernel
theorem dX11_duplicate_180 : decode cX11_duplicate 180 = .ok (.if_icmp .ne 7, 3) := by decide +kernel
theorem dX11_duplicate_183 : decode cX11_duplicate 183 = .ok (.iconst 0, 1) := by decide +kernel
theorem dX11_duplicate_184 : decode cX11_duplicate 184 = .ok (.goto 6, 3) := by decide +kernel
theorem dX11_duplicate_187 : decode cX11_duplicate 187 = .ok (.sipush 3072, 3) := by decide +kernel
theorem dX11_duplicate_190 : decode cX11_duplicate 190 = .ok (.iadd, 1) := by decide +kernel
theorem dX11_duplicate_191 : decode cX11_duplicate 191 = .ok (.invokevirtual 295, 3) := by decide +kernel
theorem dX11_duplicate_194 : decode cX11_duplicate 194 = .ok (.return_, 1) := by decide +kernel
theorem dX11_loses_0 : decode cX11_loses 0 = .ok (.aload_n 0, 1) := by decide +kernel
theorem dX11_loses_1 : decode cX11_loses 1 = .ok (.getfield 94, 3) := by decide +kernel
theorem dX11_loses_4 : decode cX11_loses 4 = .ok (.iload_n 1, 1) := by decide +kernel
theorem dX11_loses_5 : decode cX11_loses 5 = .ok (.iaload, 1) := by decide +kernel
theorem dX11_loses_6 : decode cX11_loses 6 = .ok (.iconst 2, 1) := by decide +kernel
theorem dX11_loses_7 : decode cX11_loses 7 = .ok (.if_icmp .eq 42, 3) := by decide +kernel
theorem dX11_loses_10 : decode cX11_loses 10 = .ok (.aload_n 0, 1) := by decide +kernel
theorem dX11_loses_11 : decode cX11_loses 11 = .ok (.getfield 103, 3) := by decide +kernel
theorem dX11_loses_14 : decode cX11_loses 14 = .ok (.iload_n 1, 1) := by decide +kernel
theorem dX11_loses_15 : decode cX11_loses 15 = .ok (.iaload, 1) := by decide +kernel
theorem dX11_loses_16 : decode cX11_loses 16 = .ok (.aload_n 0, 1) := by decide +kernel
theorem dX11_loses_17 : decode cX11_loses 17 = .ok (.getfield 100, 3) := by decide +kernel
theorem dX11_loses_20 : decode cX11_loses 20 = .ok (.iload_n 1, 1) := by decide +kernel
theorem dX11_loses_21 : decode cX11_loses 21 = .ok (.iaload, 1) := by decide +kernel
theorem dX11_loses_22 : decode cX11_loses 22 = .ok (.isub, 1) := by decide +kernel
theorem dX11_loses_23 : decode cX11_loses 23 = .ok (.sipush 512, 3) := by decide +kernel
theorem dX11_loses_26 : decode cX11_loses 26 = .ok (.imul, 1) := by decide +kernel
theorem dX11_loses_27 : decode cX11_loses 27 = .ok (.istore_n 2, 1) := by decide +kernel
theorem dX11_loses_28 : decode cX11_loses 28 = .ok (.aload_n 0, 1) := by decide +kernel
theorem dX11_loses_29 : decode cX11_loses 29 = .ok (.getfield 112, 3) := by decide +kernel
theorem dX11_loses_32 : decode cX11_loses 32 = .ok (.iload_n 1, 1) := by decide +kernel
theorem dX11_loses_33 : decode cX11_loses 33 = .ok (.iload_n 2, 1) := by decide +kernel
theorem dX11_loses_34 : decode cX11_loses 34 = .ok (.sipush 2048, 3) := by decide +kernel
theorem dX11_loses_37 : decode cX11_loses 37 = .ok (.if_icmp .le 7, 3) := by decide +kernel
theorem dX11_loses_40 : decode cX11_loses 40 = .ok (.iload_n 2, 1) := by decide +kernel
theorem dX11_loses_41 : decode cX11_loses 41 = .ok (.goto 6, 3) := by decide +kernel
theorem dX11_loses_44 : decode cX11_loses 44 = .ok (.sipush 2048, 3) := by decide +kernel
theorem dX11_loses_47 : decode cX11_loses 47 = .ok (.iastore, 1) := by decide +kernel
theorem dX11_loses_48 : decode cX11_loses 48 = .ok (.return_, 1) := by decide +kernel
theorem dX11_loses_49 : decode cX11_loses 49 = .ok (.aload_n 0, 1) := by decide +kernel
theorem dX11_loses_50 : decode cX11_loses 50 = .ok (.getfield 157, 3) := by decide +kernel
theorem dX11_loses_53 : decode cX11_loses 53 = .ok (.iload_n 1, 1) := by decide +kernel
theorem dX11_loses_54 : decode cX11_loses 54 = .ok (.aload_n 0, 1) := by decide +kernel
theorem dX11_loses_55 : decode cX11_loses 55 = .ok (.getfield 109, 3) := by decide +kernel
theorem dX11_loses_58 : decode cX11_loses 58 = .ok (.iload_n 1, 1) := by decide +kernel
theorem dX11_loses_59 : decode cX11_loses 59 = .ok (.iaload, 1) := by decide +kernel
theorem dX11_loses_60 : decode cX11_loses 60 = .ok (.aload_n 0, 1) := by decide +kernel
theorem dX11_loses_61 : decode cX11_loses 61 = .ok (.getfield 157, 3) := by decide +kernel
theorem dX11_loses_64 : decode cX11_loses 64 = .ok (.iload_n 1, 1) := by decide +kernel
theorem dX11_loses_65 : decode cX11_loses 65 = .ok (.iaload, 1) := by decide +kernel
theorem dX11_loses_66 : decode cX11_loses 66 = .ok (.if_icmp .ge 18, 3) := by decide +kernel
theorem dX11_loses_69 : decode cX11_loses 69 = .ok (.aload_n 0, 1) := by decide +kernel
theorem dX11_loses_70 : decode cX11_loses 70 = .ok (.getfield 109, 3) := by decide +kernel
theorem dX11_loses_73 : decode cX11_loses 73 = .ok (.iload_n 1, 1) := by decide +kernel
theorem dX11_loses_74 : decode cX11_loses 74 = .ok (.iaload, 1) := by decide +kernel
theorem dX11_loses_75 : decode cX11_loses 75 = .ok (.bipush 85, 2) := by decide +kernel
theorem dX11_loses_77 : decode cX11_loses 77 = .ok (.imul, 1) := by decide +kernel
theorem dX11_loses_78 : decode cX11_loses 78 = .ok (.bipush 100, 2) := by decide +kernel
theorem dX11_loses_80 : decode cX11_loses 80 = .ok (.idiv, 1) := by decide +kernel
theorem dX11_loses_81 : decode cX11_loses 81 = .ok (.goto 9, 3) := by decide +kernel
theorem dX11_loses_84 : decode cX11_loses 84 = .ok (.aload_n 0, 1) := by decide +kernel
theorem dX11_loses_85 : decode cX11_loses 85 = .ok (.getfield 109, 3) := by decide +kernel
theorem dX11_loses_88 : decode cX11_loses 88 = .ok (.iload_n 1, 1) := by decide +kernel
theorem dX11_loses_89 : decode cX11_loses 89 = .ok (.iaload, 1) := by decide +kernel
theorem dX11_loses_90 : decode cX11_loses 90 = .ok (.iastore, 1) := by decide +kernel
theorem dX11_loses_91 : decode cX11_loses 91 = .ok (.aload_n 0, 1) := by decide +kernel
theorem dX11_loses_92 : decode cX11_loses 92 = .ok (.getfield 109, 3) := by decide +kernel
theorem dX11_loses_95 : decode cX11_loses 95 = .ok (.iload_n 1, 1) := by decide +kernel
theorem dX11_loses_96 : decode cX11_loses 96 = .ok (.iaload, 1) := by decide +kernel
theorem dX11_loses_97 : decode cX11_loses 97 = .ok (.bipush 7, 2) := by decide +kernel
theorem dX11_loses_99 : decode cX11_loses 99 = .ok (.imul, 1) := by decide +kernel
theorem dX11_loses_100 : decode cX11_loses 100 = .ok (.bipush 10, 2) := by decide +kernel
theorem dX11_loses_102 : decode cX11_loses 102 = .ok (.idiv, 1) := by decide +kernel
theorem dX11_loses_103 : decode cX11_loses 103 = .ok (.istore_n 2, 1) := by decide +kernel
theorem dX11_loses_104 : decode cX11_loses 104 = .ok (.aload_n 0, 1) := by decide +kernel
theorem dX11_loses_105 : decode cX11_loses 105 = .ok (.getfield 112, 3) := by decide +kernel
theorem dX11_loses_108 : decode cX11_loses 108 = .ok (.iload_n 1, 1) := by decide +kernel
theorem dX11_loses_109 : decode cX11_loses 109 = .ok (.iload_n 2, 1) := by decide +kernel
theorem dX11_loses_110 : decode cX11_loses 110 = .ok (.sipush 2048, 3) := by decide +kernel
theorem dX11_loses_113 : decode cX11_loses 113 = .ok (.if_icmp .le 7, 3) := by decide +kernel
theorem dX11_loses_116 : decode cX11_loses 116 = .ok (.iload_n 2, 1) := by decide +kernel
theorem dX11_loses_117 : decode cX11_loses 117 = .ok (.goto 6, 3) := by decide +kernel
theorem dX11_loses_120 : decode cX11_loses 120 = .ok (.sipush 2048, 3) := by decide +kernel
theorem dX11_loses_123 : decode cX11_loses 123 = .ok (.iastore, 1) := by decide +kernel
theorem dX11_loses_124 : decode cX11_loses 124 = .ok (.aload_n 0, 1) := by decide +kernel
theorem dX11_loses_125 : decode cX11_loses 125 = .ok (.getfield 169, 3) := by decide +kernel
theorem dX11_loses_128 : decode cX11_loses 128 = .ok (.iload_n 1, 1) := by decide +kernel
theorem dX11_loses_129 : decode cX11_loses 129 = .ok (.iconst (-1), 1) := by decide +kernel
theorem dX11_loses_130 : decode cX11_loses 130 = .ok (.iastore, 1) := by decide +kernel
theorem dX11_loses_131 : decode cX11_loses 131 = .ok (.return_, 1) := by decide +kernel
set_option maxRecDepth 20000 in
theorem ggX11_grows_X11_opens : GoodIn wsX11_grows wsX11_opens := goodIn_r _ [22, 3, 23, 24, 25, 26, 27, 28, 29, 30, 31, 32, 33, 34, 35, 36, 37, 38, 39, 40, 41, 42, 43, 44, 45, 46, 47, 48, 49, 50, 51, 52, 53, 54, 55, 56, 57, 58, 59, 60, 61, 62, 63, 64, 65, 66, 67, 68, 69, 70, 71, 72, 73, 74, 75, 76, 77, 78, 79, 80, 81, 82, 83, 84, 85, 86, 87, 88, 89, 90, 91, 92, 93, 94, 95, 96, 97, 98] (by decide +kernel) (by decide +kernel)
set_option maxRecDepth 20000 in
theorem gX11_grows_X11_opens : GoodIn wsX11_grows (wsV RX11 295 RX11 yX11_opens wsX11_opens) := goodIn_app (goodIn_of _ (by decide +kernel)) ggX11_grows_X11_opens
theorem dX11_grows_0 : decode cX11_grows 0 = .ok (.aload_n 0, 1) := by decide +kernel
theorem dX11_grows_1 : decode cX11_grows 1 = .ok (.getfield 94, 3) := by decide +kernel
theorem dX11_grows_4 : decode cX11_grows 4 = .ok (.iload_n 1, 1) := by decide +kernel
theorem dX11_grows_5 : decode cX11_grows 5 = .ok (.iaload, 1) := by decide +kernel
theorem dX11_grows_6 : decode cX11_grows 6 = .ok (.iconst 2, 1) := by decide +kernel
theorem dX11_grows_7 : decode cX11_grows 7 = .ok (.if_icmp .eq 36, 3) := by decide +kernel
theorem dX11_grows_10 : decode cX11_grows 10 = .ok (.ldc 194, 2) := by decide +kernel
theorem dX11_grows_12 : decode cX11_grows 12 = .ok (.aload_n 0, 1) := by decide +kernel
theorem dX11_grows_13 : decode cX11_grows 13 = .ok (.getfield 109, 3) := by decide +kernel
theorem dX11_grows_16 : decode cX11_grows 16 = .ok (.iload_n 1, 1) := by decide +kernel
theorem dX11_grows_17 : decode cX11_grows 17 = .ok (.iaload, 1) := by decide +kernel
theorem dX11_grows_18 : decode cX11_grows 18 = .ok (.idiv, 1) := by decide +kernel
theorem dX11_grows_19 : decode cX11_grows 19 = .ok (.istore_n 2, 1) := by decide +kernel
theorem dX11_grows_20 : decode cX11_grows 20 = .ok (.aload_n 0, 1) := by decide +kernel
theorem dX11_grows_21 : decode cX11_grows 21 = .ok (.iload_n 1, 1) := by decide +kernel
theorem dX11_grows_22 : decode cX11_grows 22 = .ok (.aload_n 0, 1) := by decide +kernel
theorem dX11_grows_23 : decode cX11_grows 23 = .ok (.getfield 109, 3) := by decide +kernel
theorem dX11_grows_26 : decode cX11_grows 26 = .ok (.iload_n 1, 1) := by decide +kernel
theorem dX11_grows_27 : decode cX11_grows 27 = .ok (.iaload, 1) := by decide +kernel
theorem dX11_grows_28 : decode cX11_grows 28 = .ok (.iload_n 2, 1) := by decide +kernel
theorem dX11_grows_29 : decode cX11_grows 29 = .ok (.iconst 1, 1) := by decide +kernel
theorem dX11_grows_30 : decode cX11_grows 30 = .ok (.if_icmp .le 7, 3) := by decide +kernel
theorem dX11_grows_33 : decode cX11_grows 33 = .ok (.iload_n 2, 1) := by decide +kernel
theorem dX11_grows_34 : decode cX11_grows 34 = .ok (.goto 4, 3) := by decide +kernel
theorem dX11_grows_37 : decode cX11_grows 37 = .ok (.iconst 1, 1) := by decide +kernel
theorem dX11_grows_38 : decode cX11_grows 38 = .ok (.iadd, 1) := by decide +kernel
theorem dX11_grows_39 : decode cX11_grows 39 = .ok (.invokevirtual 295, 3) := by decide +kernel
theorem dX11_grows_42 : decode cX11_grows 42 = .ok (.return_, 1) := by decide +kernel
theorem dX11_grows_43 : decode cX11_grows 43 = .ok (.aload_n 0, 1) := by decide +kernel
theorem dX11_grows_44 : decode cX11_grows 44 = .ok (.getfield 169, 3) := by decide +kernel
theorem dX11_grows_47 : decode cX11_grows 47 = .ok (.iload_n 1, 1) := by decide +kernel
theorem dX11_grows_48 : decode cX11_grows 48 = .ok (.iaload, 1) := by decide +kernel
theorem dX11_grows_49 : decode cX11_grows 49 = .ok (.iconst (-1), 1) := by decide +kernel
theorem dX11_grows_50 : decode cX11_grows 50 = .ok (.if_icmp .ne 142, 3) := by decide +kernel
theorem dX11_grows_53 : decode cX11_grows 53 = .ok (.aload_n 0, 1) := by decide +kernel
theorem dX11_grows_54 : decode cX11_grows 54 = .ok (.getfield 169, 3) := by decide +kernel
theorem dX11_grows_57 : decode cX11_grows 57 = .ok (.iload_n 1, 1) := by decide +kernel
theorem dX11_grows_58 : decode cX11_grows 58 = .ok (.aload_n 0, 1) := by decide +kernel
theorem dX11_grows_59 : decode cX11_grows 59 = .ok (.getfield 207, 3) := by decide +kernel
theorem dX11_grows_62 : decode cX11_grows 62 = .ok (.iastore, 1) := by decide +kernel
theorem dX11_grows_63 : decode cX11_grows 63 = .ok (.aload_n 0, 1) := by decide +kernel
theorem dX11_grows_64 : decode cX11_grows 64 = .ok (.getfield 109, 3) := by decide +kernel
theorem dX11_grows_67 : decode cX11_grows 67 = .ok (.iload_n 1, 1) := by decide +kernel
theorem dX11_grows_68 : decode cX11_grows 68 = .ok (.iaload, 1) := by decide +kernel
theorem dX11_grows_69 : decode cX11_grows 69 = .ok (.aload_n 0, 1) := by decide +kernel
theorem dX11_grows_70 : decode cX11_grows 70 = .ok (.getfield 157, 3) := by decide +kernel
theorem dX11_grows_73 : decode cX11_grows 73 = .ok (.iload_n 1, 1) := by decide +kernel
theorem dX11_grows_74 : decode cX11_grows 74 = .ok (.iaload, 1) := by decide +kernel
theorem dX11_grows_75 : decode cX11_grows 75 = .ok (.if_icmp .ge 28, 3) := by decide +kernel
theorem dX11_grows_78 : decode cX11_grows 78 = .ok (.aload_n 0, 1) := by decide +kernel
theorem dX11_grows_79 : decode cX11_grows 79 = .ok (.getfield 157, 3) := by decide +kernel
theorem dX11_grows_82 : decode cX11_grows 82 = .ok (.iload_n 1, 1) := by decide +kernel
theorem dX11_grows_83 : decode cX11_grows 83 = .ok (.iaload, 1) := by decide +kernel
theorem dX11_grows_84 : decode cX11_grows 84 = .ok (.aload_n 0, 1) := by decide +kernel
theorem dX11_grows_85 : decode cX11_grows 85 = .ok (.getfield 109, 3) := by decide +kernel
theorem dX11_grows_88 : decode cX11_grows 88 = .ok (.iload_n 1, 1) := by decide +kernel
theorem dX11_grows_89 : decode cX11_grows 89 = .ok (.iaload, 1) := by decide +kernel
theorem dX11_grows_90 : decode cX11_grows 90 = .ok (.isub, 1) := by decide +kernel
theorem dX11_grows_91 : decode cX11_grows 91 = .ok (.i2l, 1) := by decide +kernel
theorem dX11_grows_92 : decode cX11_grows 92 = .ok (.ldc2_w 307, 3) := by decide +kernel
theorem dX11_grows_95 : decode cX11_grows 95 = .ok (.lmul, 1) := by decide +kernel
theorem dX11_grows_96 : decode cX11_grows 96 = .ok (.ldc2_w 309, 3) := by decide +kernel
theorem dX11_grows_99 : decode cX11_grows 99 = .ok (.ldiv, 1) := by decide +kernel
theorem dX11_grows_100 : decode cX11_grows 100 = .ok (.goto 4, 3) := by decide +kernel
theorem dX11_grows_103 : decode cX11_grows 103 = .ok (.lconst 0, 1) := by decide +kernel
theorem dX11_grows_104 : decode cX11_grows 104 = .ok (.lstore_n 2, 1) := by decide +kernel
theorem dX11_grows_105 : decode cX11_grows 105 = .ok (.iconst 0, 1) := by decide +kernel
theorem dX11_grows_106 : decode cX11_grows 106 = .ok (.istore 4, 2) := by decide +kernel
theorem dX11_grows_108 : decode cX11_grows 108 = .ok (.iload 4, 2) := by decide +kernel
theorem dX11_grows_110 : decode cX11_grows 110 = .ok (.i2l, 1) := by decide +kernel
theorem dX11_grows_111 : decode cX11_grows 111 = .ok (.lconst 1, 1) := by decide +kernel
theorem dX11_grows_112 : decode cX11_grows 112 = .ok (.ladd, 1) := by decide +kernel
theorem dX11_grows_113 : decode cX11_grows 113 = .ok (.iload 4, 2) := by decide +kernel
theorem dX11_grows_115 : decode cX11_grows 115 = .ok (.i2l, 1) := by decide +kernel
theorem dX11_grows_116 : decode cX11_grows 116 = .ok (.lconst 1, 1) := by decide +kernel
theorem dX11_grows_117 : decode cX11_grows 117 = .ok (.ladd, 1) := by decide +kernel
theorem dX11_grows_118 : decode cX11_grows 118 = .ok (.lmul, 1) := by decide +kernel
theorem dX11_grows_119 : decode cX11_grows 119 = .ok (.iload 4, 2) := by decide +kernel
theorem dX11_grows_121 : decode cX11_grows 121 = .ok (.i2l, 1) := by decide +kernel
theorem dX11_grows_122 : decode cX11_grows 122 = .ok (.lconst 1, 1) := by decide +kernel
theorem dX11_grows_123 : decode cX11_grows 123 = .ok (.ladd, 1) := by decide +kernel
theorem dX11_grows_124 : decode cX11_grows 124 = .ok (.lmul, 1) := by decide +kernel
theorem dX11_grows_125 : decode cX11_grows 125 = .ok (.lload_n 2, 1) := by decide +kernel
theorem dX11_grows_126 : decode cX11_grows 126 = .ok (.lcmp, 1) := by decide +kernel
theorem dX11_grows_127 : decode cX11_grows 127 = .ok (.ifCond .gt 9, 3) := by decide +kernel
theorem dX11_grows_130 : decode cX11_grows 130 = .ok (.iinc 4 1, 3) := by decide +kernel
theorem dX11_grows_133 : decode cX11_grows 133 = .ok (.goto (-25), 3) := by decide +kernel
theorem dX11_grows_136 : decode cX11_grows 136 = .ok (.aload_n 0, 1) := by decide +kernel
theorem dX11_grows_137 : decode cX11_grows 137 = .ok (.getfield 160, 3) := by decide +kernel
theorem dX11_grows_140 : decode cX11_grows 140 = .ok (.iload_n 1, 1) := by decide +kernel
theorem dX11_grows_141 : decode cX11_grows 141 = .ok (.iload 4, 2) := by decide +kernel
theorem dX11_grows_143 : decode cX11_grows 143 = .ok (.iastore, 1) := by decide +kernel
theorem dX11_grows_144 : decode cX11_grows 144 = .ok (.aload_n 0, 1) := by decide +kernel
theorem dX11_grows_145 : decode cX11_grows 145 = .ok (.getfield 163, 3) := by decide +kernel
theorem dX11_grows_148 : decode cX11_grows 148 = .ok (.iload_n 1, 1) := by decide +kernel
theorem dX11_grows_149 : decode cX11_grows 149 = .ok (.aload_n 0, 1) := by decide +kernel
theorem dX11_grows_150 : decode cX11_grows 150 = .ok (.getfield 157, 3) := by decide +kernel
theorem dX11_grows_153 : decode cX11_grows 153 = .ok (.iload_n 1, 1) := by decide +kernel
theorem dX11_grows_154 : decode cX11_grows 154 = .ok (.iaload, 1) := by decide +kernel
theorem dX11_grows_155 : decode cX11_grows 155 = .ok (.aload_n 0, 1) := by decide +kernel
theorem dX11_grows_156 : decode cX11_grows 156 = .ok (.getfield 109, 3) := by decide +kernel
theorem dX11_grows_159 : decode cX11_grows 159 = .ok (.iload_n 1, 1) := by decide +kernel
theorem dX11_grows_160 : decode cX11_grows 160 = .ok (.iaload, 1) := by decide +kernel
theorem dX11_grows_161 : decode cX11_grows 161 = .ok (.if_icmp .le 12, 3) := by decide +kernel
theorem dX11_grows_164 : decode cX11_grows 164 = .ok (.aload_n 0, 1) := by decide +kernel
theorem dX11_grows_165 : decode cX11_grows 165 = .ok (.getfield 157, 3) := by decide +kernel
theorem dX11_grows_168 : decode cX11_grows 168 = .ok (.iload_n 1, 1) := by decide +kernel
theorem dX11_grows_169 : decode cX11_grows 169 = .ok (.iaload, 1) := by decide +kernel
theorem dX11_grows_170 : decode cX11_grows 170 = .ok (.goto 9, 3) := by decide +kernel
theorem dX11_grows_173 : decode cX11_grows 173 = .ok (.aload_n 0, 1) := by decide +kernel
theorem dX11_grows_174 : decode cX11_grows 174 = .ok (.getfield 109, 3) := by decide +kernel
theorem dX11_grows_177 : decode cX11_grows 177 = .ok (.iload_n 1, 1) := by decide +kernel
theorem dX11_grows_178 : decode cX11_grows 178 = .ok (.iaload, 1) := by decide +kernel
theorem dX11_grows_179 : decode cX11_grows 179 = .ok (.iastore, 1) := by decide +kernel
theorem dX11_grows_180 : decode cX11_grows 180 = .ok (.aload_n 0, 1) := by decide +kernel
theorem dX11_grows_181 : decode cX11_grows 181 = .ok (.getfield 166, 3) := by decide +kernel
theorem dX11_grows_184 : decode cX11_grows 184 = .ok (.iload_n 1, 1) := by decide +kernel
theorem dX11_grows_185 : decode cX11_grows 185 = .ok (.aload_n 0, 1) := by decide +kernel
theorem dX11_grows_186 : decode cX11_grows 186 = .ok (.getfield 109, 3) := by decide +kernel
theorem dX11_grows_189 : decode cX11_grows 189 = .ok (.iload_n 1, 1) := by decide +kernel
theorem dX11_grows_190 : decode cX11_grows 190 = .ok (.iaload, 1) := by decide +kernel
theorem dX11_grows_191 : decode cX11_grows 191 = .ok (.iastore, 1) := by decide +kernel
theorem dX11_grows_192 : decode cX11_grows 192 = .ok (.aload_n 0, 1) := by decide +kernel
theorem dX11_grows_193 : decode cX11_grows 193 = .ok (.getfield 207, 3) := by decide +kernel
theorem dX11_grows_196 : decode cX11_grows 196 = .ok (.i2l, 1) := by decide +kernel
theorem dX11_grows_197 : decode cX11_grows 197 = .ok (.aload_n 0, 1) := by decide +kernel
theorem dX11_grows_198 : decode cX11_grows 198 = .ok (.getfield 169, 3) := by decide +kernel
theorem dX11_grows_201 : decode cX11_grows 201 = .ok (.iload_n 1, 1) := by decide +kernel
theorem dX11_grows_202 : decode cX11_grows 202 = .ok (.iaload, 1) := by decide +kernel
theorem dX11_grows_203 : decode cX11_grows 203 = .ok (.i2l, 1) := by decide +kernel
theorem dX11_grows_204 : decode cX11_grows 204 = .ok (.lsub, 1) := by decide +kernel
theorem dX11_grows_205 : decode cX11_grows 205 = .ok (.aload_n 0, 1) := by decide +kernel
theorem dX11_grows_206 : decode cX11_grows 206 = .ok (.getfield 118, 3) := by decide +kernel
theorem dX11_grows_209 : decode cX11_grows 209 = .ok (.iload_n 1, 1) := by decide +kernel
theorem dX11_grows_210 : decode cX11_grows 210 = .ok (.iaload, 1) := by decide +kernel
theorem dX11_grows_211 : decode cX11_grows 211 = .ok (.bipush 8, 2) := by decide +kernel
theorem dX11_grows_213 : decode cX11_grows 213 = .ok (.idiv, 1) := by decide +kernel
theorem dX11_grows_214 : decode cX11_grows 214 = .ok (.i2l, 1) := by decide +kernel
theorem dX11_grows_215 : decode cX11_grows 215 = .ok (.ladd, 1) := by decide +kernel
theorem dX11_grows_216 : decode cX11_grows 216 = .ok (.aload_n 0, 1) := by decide +kernel
theorem dX11_grows_217 : decode cX11_grows 217 = .ok (.getfield 160, 3) := by decide +kernel
theorem dX11_grows_220 : decode cX11_grows 220 = .ok (.iload_n 1, 1) := by decide +kernel
theorem dX11_grows_221 : decode cX11_grows 221 = .ok (.iaload, 1) := by decide +kernel
theorem dX11_grows_222 : decode cX11_grows 222 = .ok (.i2l, 1) := by decide +kernel
theorem dX11_grows_223 : decode cX11_grows 223 = .ok (.lsub, 1) := by decide +kernel
theorem dX11_grows_224 : decode cX11_grows 224 = .ok (.lstore_n 2, 1) := by decide +kernel
theorem dX11_grows_225 : decode cX11_grows 225 = .ok (.lload_n 2, 1) := by decide +kernel
theorem dX11_grows_226 : decode cX11_grows 226 = .ok (.ldc2_w 311, 3) := by decide +kernel
theorem dX11_grows_229 : decode cX11_grows 229 = .ok (.lcmp, 1) := by decide +kernel
theorem dX11_grows_230 : decode cX11_grows 230 = .ok (.ifCond .ge 9, 3) := by decide +kernel
theorem dX11_grows_233 : decode cX11_grows 233 = .ok (.ldc2_w 311, 3) := by decide +kernel
theorem dX11_grows_236 : decode cX11_grows 236 = .ok (.goto 18, 3) := by decide +kernel
theorem dX11_grows_239 : decode cX11_grows 239 = .ok (.lload_n 2, 1) := by decide +kernel
theorem dX11_grows_240 : decode cX11_grows 240 = .ok (.ldc2_w 313, 3) := by decide +kernel
theorem dX11_grows_243 : decode cX11_grows 243 = .ok (.lcmp, 1) := by decide +kernel
theorem dX11_grows_244 : decode cX11_grows 244 = .ok (.ifCond .le 9, 3) := by decide +kernel
theorem dX11_grows_247 : decode cX11_grows 247 = .ok (.ldc2_w 313, 3) := by decide +kernel
theorem dX11_grows_250 : decode cX11_grows 250 = .ok (.goto 4, 3) := by decide +kernel
theorem dX11_grows_253 : decode cX11_grows 253 = .ok (.lload_n 2, 1) := by decide +kernel
theorem dX11_grows_254 : decode cX11_grows 254 = .ok (.lstore_n 2, 1) := by decide +kernel
theorem dX11_grows_255 : decode cX11_grows 255 = .ok (.aload_n 0, 1) := by decide +kernel
theorem dX11_grows_256 : decode cX11_grows 256 = .ok (.getfield 163, 3) := by decide +kernel
theorem dX11_grows_259 : decode cX11_grows 259 = .ok (.iload_n 1, 1) := by decide +kernel
theorem dX11_grows_260 : decode cX11_grows 260 = .ok (.iaload, 1) := by decide +kernel
theorem dX11_grows_261 : decode cX11_grows 261 = .ok (.i2l, 1) := by decide +kernel
theorem dX11_grows_262 : decode cX11_grows 262 = .ok (.lload_n 2, 1) := by decide +kernel
theorem dX11_grows_263 : decode cX11_grows 263 = .ok (.lload_n 2, 1) := by decide +kernel
theorem dX11_grows_264 : decode cX11_grows 264 = .ok (.lmul, 1) := by decide +kernel
theorem dX11_grows_265 : decode cX11_grows 265 = .ok (.lload_n 2, 1) := by decide +kernel
theorem dX11_grows_266 : decode cX11_grows 266 = .ok (.lmul, 1) := by decide +kernel
theorem dX11_grows_267 : decode cX11_grows 267 = .ok (.ldc2_w 315, 3) := by decide +kernel
theorem dX11_grows_270 : decode cX11_grows 270 = .ok (.lmul, 1) := by decide +kernel
theorem dX11_grows_271 : decode cX11_grows 271 = .ok (.ldc2_w 317, 3) := by decide +kernel
theorem dX11_grows_274 : decode cX11_grows 274 = .ok (.ldiv, 1) := by decide +kernel
theorem dX11_grows_275 : decode cX11_grows 275 = .ok (.ladd, 1) := by decide +kernel
theorem dX11_grows_276 : decode cX11_grows 276 = .ok (.lstore 4, 2) := by decide +kernel
theorem dX11_grows_278 : decode cX11_grows 278 = .ok (.aload_n 0, 1) := by decide +kernel
theorem dX11_grows_279 : decode cX11_grows 279 = .ok (.getfield 109, 3) := by decide +kernel
theorem dX11_grows_282 : decode cX11_grows 282 = .ok (.iload_n 1, 1) := by decide +kernel
theorem dX11_grows_283 : decode cX11_grows 283 = .ok (.iaload, 1) := by decide +kernel
theorem dX11_grows_284 : decode cX11_grows 284 = .ok (.iconst 3, 1) := by decide +kernel
theorem dX11_grows_285 : decode cX11_grows 285 = .ok (.imul, 1) := by decide +kernel
theorem dX11_grows_286 : decode cX11_grows 286 = .ok (.iconst 2, 1) := by decide +kernel
theorem dX11_grows_287 : decode cX11_grows 287 = .ok (.idiv, 1) := by decide +kernel
theorem dX11_grows_288 : decode cX11_grows 288 = .ok (.i2l, 1) := by decide +kernel
theorem dX11_grows_289 : decode cX11_grows 289 = .ok (.lstore 6, 2) := by decide +kernel
theorem dX11_grows_291 : decode cX11_grows 291 = .ok (.lload 4, 2) := by decide +kernel
theorem dX11_grows_293 : decode cX11_grows 293 = .ok (.aload_n 0, 1) := by decide +kernel
theorem dX11_grows_294 : decode cX11_grows 294 = .ok (.getfield 109, 3) := by decide +kernel
theorem dX11_grows_297 : decode cX11_grows 297 = .ok (.iload_n 1, 1) := by decide +kernel
theorem dX11_grows_298 : decode cX11_grows 298 = .ok (.iaload, 1) := by decide +kernel
theorem dX11_grows_299 : decode cX11_grows 299 = .ok (.i2l, 1) := by decide +kernel
theorem dX11_grows_300 : decode cX11_grows 300 = .ok (.lcmp, 1) := by decide +kernel
theorem dX11_grows_301 : decode cX11_grows 301 = .ok (.ifCond .ge 13, 3) := by decide +kernel
theorem dX11_grows_304 : decode cX11_grows 304 = .ok (.aload_n 0, 1) := by decide +kernel
theorem dX11_grows_305 : decode cX11_grows 305 = .ok (.getfield 109, 3) := by decide +kernel
theorem dX11_grows_308 : decode cX11_grows 308 = .ok (.iload_n 1, 1) := by decide +kernel
theorem dX11_grows_309 : decode cX11_grows 309 = .ok (.iaload, 1) := by decide +kernel
theorem dX11_grows_310 : decode cX11_grows 310 = .ok (.i2l, 1) := by decide +kernel
theorem dX11_grows_311 : decode cX11_grows 311 = .ok (.goto 18, 3) := by decide +kernel
theorem dX11_grows_314 : decode cX11_grows 314 = .ok (.lload 4, 2) := by decide +kernel
theorem dX11_grows_316 : decode cX11_grows 316 = .ok (.lload 6, 2) := by decide +kernel
theorem dX11_grows_318 : decode cX11_grows 318 = .ok (.lcmp, 1) := by decide +kernel
theorem dX11_grows_319 : decode cX11_grows 319 = .ok (.ifCond .le 8, 3) := by decide +kernel
theorem dX11_grows_322 : decode cX11_grows 322 = .ok (.lload 6, 2) := by decide +kernel
theorem dX11_grows_324 : decode cX11_grows 324 = .ok (.goto 5, 3) := by decide +kernel
theorem dX11_grows_327 : decode cX11_grows 327 = .ok (.lload 4, 2) := by decide +kernel
theorem dX11_grows_329 : decode cX11_grows 329 = .ok (.lstore 4, 2) := by decide +kernel
theorem dX11_grows_331 : decode cX11_grows 331 = .ok (.aload_n 0, 1) := by decide +kernel
theorem dX11_grows_332 : decode cX11_grows 332 = .ok (.getfield 166, 3) := by decide +kernel
theorem dX11_grows_335 : decode cX11_grows 335 = .ok (.iload_n 1, 1) := by decide +kernel
theorem dX11_grows_336 : decode cX11_grows 336 = .ok (.dup2, 1) := by decide +kernel
theorem dX11_grows_337 : decode cX11_grows 337 = .ok (.iaload, 1) := by decide +kernel
theorem dX11_grows_338 : decode cX11_grows 338 = .ok (.ldc_w 319, 3) := by decide +kernel
theorem dX11_grows_341 : decode cX11_grows 341 = .ok (.aload_n 0, 1) := by decide +kernel
theorem dX11_grows_342 : decode cX11_grows 342 = .ok (.getfield 109, 3) := by decide +kernel
theorem dX11_grows_345 : decode cX11_grows 345 = .ok (.iload_n 1, 1) := by decide +kernel
theorem dX11_grows_346 : decode cX11_grows 346 = .ok (.iaload, 1) := by decide +kernel
theorem dX11_grows_347 : decode cX11_grows 347 = .ok (.idiv, 1) := by decide +kernel
theorem dX11_grows_348 : decode cX11_grows 348 = .ok (.iadd, 1) := by decide +kernel
theorem dX11_grows_349 : decode cX11_grows 349 = .ok (.iastore, 1) := by decide +kernel
theorem dX11_grows_350 : decode cX11_grows 350 = .ok (.lload 4, 2) := by decide +kernel
theorem dX11_grows_352 : decode cX11_grows 352 = .ok (.aload_n 0, 1) := by decide +kernel
theorem dX11_grows_353 : decode cX11_grows 353 = .ok (.getfield 109, 3) := by decide +kernel
theorem dX11_grows_356 : decode cX11_grows 356 = .ok (.iload_n 1, 1) := by decide +kernel
theorem dX11_grows_357 : decode cX11_grows 357 = .ok (.iaload, 1) := by decide +kernel
theorem dX11_grows_358 : decode cX11_grows 358 = .ok (.i2l, 1) := by decide +kernel
theorem dX11_grows_359 : decode cX11_grows 359 = .ok (.lsub, 1) := by decide +kernel
theorem dX11_grows_360 : decode cX11_grows 360 = .ok (.ldc2_w 309, 3) := by decide +kernel
theorem dX11_grows_363 : decode cX11_grows 363 = .ok (.lmul, 1) := by decide +kernel
theorem dX11_grows_364 : decode cX11_grows 364 = .ok (.aload_n 0, 1) := by decide +kernel
theorem dX11_grows_365 : decode cX11_grows 365 = .ok (.getfield 109, 3) := by decide +kernel
theorem dX11_grows_368 : decode cX11_grows 368 = .ok (.iload_n 1, 1) := by decide +kernel
theorem dX11_grows_369 : decode cX11_grows 369 = .ok (.iaload, 1) := by decide +kernel
theorem dX11_grows_370 : decode cX11_grows 370 = .ok (.i2l, 1) := by decide +kernel
theorem dX11_grows_371 : decode cX11_grows 371 = .ok (.ldiv, 1) := by decide +kernel
theorem dX11_grows_372 : decode cX11_grows 372 = .ok (.l2i, 1) := by decide +kernel
theorem dX11_grows_373 : decode cX11_grows 373 = .ok (.istore 8, 2) := by decide +kernel
theorem dX11_grows_375 : decode cX11_grows 375 = .ok (.aload_n 0, 1) := by decide +kernel
theorem dX11_grows_376 : decode cX11_grows 376 = .ok (.getfield 109, 3) := by decide +kernel
theorem dX11_grows_379 : decode cX11_grows 379 = .ok (.iload_n 1, 1) := by decide +kernel
theorem dX11_grows_380 : decode cX11_grows 380 = .ok (.iaload, 1) := by decide +kernel
theorem dX11_grows_381 : decode cX11_grows 381 = .ok (.iload 8, 2) := by decide +kernel
theorem dX11_grows_383 : decode cX11_grows 383 = .ok (.iconst 1, 1) := by decide +kernel
theorem dX11_grows_384 : decode cX11_grows 384 = .ok (.if_icmp .le 8, 3) := by decide +kernel
theorem dX11_grows_387 : decode cX11_grows 387 = .ok (.iload 8, 2) := by decide +kernel
theorem dX11_grows_389 : decode cX11_grows 389 = .ok (.goto 4, 3) := by decide +kernel
theorem dX11_grows_392 : decode cX11_grows 392 = .ok (.iconst 1, 1) := by decide +kernel
theorem dX11_grows_393 : decode cX11_grows 393 = .ok (.iadd, 1) := by decide +kernel
theorem dX11_grows_394 : decode cX11_grows 394 = .ok (.istore 9, 2) := by decide +kernel
theorem dX11_grows_396 : decode cX11_grows 396 = .ok (.aload_n 0, 1) := by decide +kernel
theorem dX11_grows_397 : decode cX11_grows 397 = .ok (.iload_n 1, 1) := by decide +kernel
theorem dX11_grows_398 : decode cX11_grows 398 = .ok (.aload_n 0, 1) := by decide +kernel
theorem dX11_grows_399 : decode cX11_grows 399 = .ok (.getfield 166, 3) := by decide +kernel
theorem dX11_grows_402 : decode cX11_grows 402 = .ok (.iload_n 1, 1) := by decide +kernel
theorem dX11_grows_403 : decode cX11_grows 403 = .ok (.iaload, 1) := by decide +kernel
theorem dX11_grows_404 : decode cX11_grows 404 = .ok (.iload 9, 2) := by decide +kernel
theorem dX11_grows_406 : decode cX11_grows 406 = .ok (.if_icmp .le 12, 3) := by decide +kernel
theorem dX11_grows_409 : decode cX11_grows 409 = .ok (.aload_n 0, 1) := by decide +kernel
theorem dX11_grows_410 : decode cX11_grows 410 = .ok (.getfield 166, 3) := by decide +kernel
theorem dX11_grows_413 : decode cX11_grows 413 = .ok (.iload_n 1, 1) := by decide +kernel
theorem dX11_grows_414 : decode cX11_grows 414 = .ok (.iaload, 1) := by decide +kernel
theorem dX11_grows_415 : decode cX11_grows 415 = .ok (.goto 5, 3) := by decide +kernel
theorem dX11_grows_418 : decode cX11_grows 418 = .ok (.iload 9, 2) := by decide +kernel
theorem dX11_grows_420 : decode cX11_grows 420 = .ok (.invokevirtual 295, 3) := by decide +kernel
theorem dX11_grows_423 : decode cX11_grows 423 = .ok (.return_, 1) := by decide +kernel
set_option maxRecDepth 20000 in
theorem ggX11_due_X11_loses : GoodIn wsX11_due wsX11_loses := goodIn_r _ [20, 21, 2, 3, 22, 23, 24, 25, 53, 54, 55, 56, 57, 58, 59, 60, 61, 62, 63, 64, 65, 66, 67, 68, 69, 70, 71, 72, 73, 74, 75, 76, 77, 78, 79, 80, 81, 82, 83, 84, 85, 86, 87, 88, 89, 90, 91, 92, 93, 94, 95, 96, 97, 98, 99, 100, 101, 102, 103, 104, 105, 106, 107, 108, 109, 110, 111, 112, 113, 114, 115, 116, 117, 118, 119, 120, 121, 122, 123, 124, 125, 126] (by decide +kernel) (by decide +kernel)
set_option maxRecDepth 20000 in
theorem gX11_due_X11_loses : GoodIn wsX11_due (wsV RX11 304 RX11 yX11_loses wsX11_loses) := goodIn_app (goodIn_of _ (by decide +kernel)) ggX11_due_X11_loses
set_option maxRecDepth 20000 in
theorem ggX11_due_X11_opens : GoodIn wsX11_due wsX11_opens := goodIn_r _ [29, 24, 30, 31, 53, 54, 55, 56, 57, 58, 59, 60, 61, 62, 63, 64, 65, 66, 67, 68, 69, 70, 71, 72, 73, 74, 75, 76, 77, 78, 79, 80, 81, 82, 83, 84, 85, 86, 87, 88, 89, 90, 91, 92, 93, 94, 95, 96, 97, 98, 99, 100, 101, 102, 103, 104, 105, 106, 107, 108, 109, 110, 111, 112, 113, 114, 115, 116, 117, 118, 119, 120, 121, 122, 123, 124, 125, 126] (by decide +kernel) (by decide +kernel)
set_option maxRecDepth 20000 in
theorem gX11_due_X11_opens : GoodIn wsX11_due (wsV RX11 295 RX11 yX11_opens wsX11_opens) := goodIn_app (goodIn_of _ (by decide +kernel)) ggX11_due_X11_opens
set_option maxRecDepth 20000 in
theorem ggX11_due_X11_doubles : GoodIn wsX11_due wsX11_doubles := goodIn_r _ [35, 15, 36, 53, 54, 55, 56, 57, 58, 59, 60, 61, 62, 63, 64, 65, 66, 67, 68, 69, 70, 71, 72, 73, 74, 75, 76, 77, 78, 79, 80, 81, 82, 83, 84, 85, 86, 87, 88, 89, 90, 91, 92, 93, 94, 95, 96, 97, 98, 99, 100, 101, 102, 103, 104, 105, 106, 107, 108, 109, 110, 111, 112, 113, 114, 115, 116, 117, 118, 119, 120, 121, 122, 123, 124, 125, 126] (by decide +kernel) (by decide +kernel)
set_option maxRecDepth 20000 in
theorem gX11_due_X11_doubles : GoodIn wsX11_due (wsV RX11 320 RX11 yX11_doubles wsX11_doubles) := goodIn_app (goodIn_of _ (by decide +kernel)) ggX11_due_X11_doubles
set_option maxRecDepth 20000 in
theorem ggX11_due_X11_puts : GoodIn wsX11_due wsX11_puts := goodIn_r _ [40, 41, 42, 43, 44, 45, 46, 47, 48, 49, 50, 14, 51, 52, 53, 54, 55, 56, 57, 58, 59, 60, 61, 62, 63, 64, 65, 66, 67, 68, 69, 70, 71, 72, 73, 74, 75, 76, 77, 78, 79, 80, 81, 82, 83, 84, 85, 86, 87, 88, 89, 90, 91, 92, 93, 94, 95, 96, 97, 98, 99, 100, 101, 102, 103, 104, 105, 106, 107, 108, 109, 110, 111, 112, 113, 114, 115, 116, 117, 118, 119, 120, 121, 122, 123, 124, 125, 126] (by decide +kernel) (by decide +kernel)
set_option maxRecDepth 20000 in
theorem gX11_due_X11_puts : GoodIn wsX11_due (wsV RX11 323 RX11 yX11_puts wsX11_puts) := goodIn_app (goodIn_of _ (by decide +kernel)) ggX11_due_X11_puts
theorem dX11_due_0 : decode cX11_due 0 = .ok (.aload_n 0, 1) := by decide +kernel
theorem dX11_due_1 : decode cX11_due 1 = .ok (.getfield 175, 3) := by decide +kernel
theorem dX11_due_4 : decode cX11_due 4 = .ok (.iload_n 1, 1) := by decide +kernel
theorem dX11_due_5 : decode cX11_due 5 = .ok (.iconst (-1), 1) := by decide +kernel
theorem dX11_due_6 : decode cX11_due 6 = .ok (.iastore, 1) := by decide +kernel
theorem dX11_due_7 : decode cX11_due 7 = .ok (.aload_n 0, 1) := by decide +kernel
theorem dX11_due_8 : decode cX11_due 8 = .ok (.getfield 103, 3) := by decide +kernel
theorem dX11_due_11 : decode cX11_due 11 = .ok (.iload_n 1, 1) := by decide +kernel
theorem dX11_due_12 : decode cX11_due 12 = .ok (.iaload, 1) := by decide +kernel
theorem dX11_due_13 : decode cX11_due 13 = .ok (.aload_n 0, 1) := by decide +kernel
theorem dX11_due_14 : decode cX11_due 14 = .ok (.getfield 100, 3) := by decide +kernel
theorem dX11_due_17 : decode cX11_due 17 = .ok (.iload_n 1, 1) := by decide +kernel
theorem dX11_due_18 : decode cX11_due 18 = .ok (.iaload, 1) := by decide +kernel
theorem dX11_due_19 : decode cX11_due 19 = .ok (.if_icmp .le 105, 3) := by decide +kernel
theorem dX11_due_22 : decode cX11_due 22 = .ok (.aload_n 0, 1) := by decide +kernel
theorem dX11_due_23 : decode cX11_due 23 = .ok (.getfield 139, 3) := by decide +kernel
theorem dX11_due_26 : decode cX11_due 26 = .ok (.iload_n 1, 1) := by decide +kernel
theorem dX11_due_27 : decode cX11_due 27 = .ok (.dup2, 1) := by decide +kernel
theorem dX11_due_28 : decode cX11_due 28 = .ok (.iaload, 1) := by decide +kernel
theorem dX11_due_29 : decode cX11_due 29 = .ok (.iconst 1, 1) := by decide +kernel
theorem dX11_due_30 : decode cX11_due 30 = .ok (.iadd, 1) := by decide +kernel
theorem dX11_due_31 : decode cX11_due 31 = .ok (.iastore, 1) := by decide +kernel
theorem dX11_due_32 : decode cX11_due 32 = .ok (.aload_n 0, 1) := by decide +kernel
theorem dX11_due_33 : decode cX11_due 33 = .ok (.iload_n 1, 1) := by decide +kernel
theorem dX11_due_34 : decode cX11_due 34 = .ok (.invokevirtual 304, 3) := by decide +kernel
theorem dX11_due_37 : decode cX11_due 37 = .ok (.aload_n 0, 1) := by decide +kernel
theorem dX11_due_38 : decode cX11_due 38 = .ok (.iload_n 1, 1) := by decide +kernel
theorem dX11_due_39 : decode cX11_due 39 = .ok (.sipush 1024, 3) := by decide +kernel
theorem dX11_due_42 : decode cX11_due 42 = .ok (.invokevirtual 295, 3) := by decide +kernel
theorem dX11_due_45 : decode cX11_due 45 = .ok (.aload_n 0, 1) := by decide +kernel
theorem dX11_due_46 : decode cX11_due 46 = .ok (.iload_n 1, 1) := by decide +kernel
theorem dX11_due_47 : decode cX11_due 47 = .ok (.invokevirtual 320, 3) := by decide +kernel
theorem dX11_due_50 : decode cX11_due 50 = .ok (.aload_n 0, 1) := by decide +kernel
theorem dX11_due_51 : decode cX11_due 51 = .ok (.getfield 130, 3) := by decide +kernel
theorem dX11_due_54 : decode cX11_due 54 = .ok (.iload_n 1, 1) := by decide +kernel
theorem dX11_due_55 : decode cX11_due 55 = .ok (.iconst 0, 1) := by decide +kernel
theorem dX11_due_56 : decode cX11_due 56 = .ok (.bastore, 1) := by decide +kernel
theorem dX11_due_57 : decode cX11_due 57 = .ok (.aload_n 0, 1) := by decide +kernel
theorem dX11_due_58 : decode cX11_due 58 = .ok (.getfield 127, 3) := by decide +kernel
theorem dX11_due_61 : decode cX11_due 61 = .ok (.iload_n 1, 1) := by decide +kernel
theorem dX11_due_62 : decode cX11_due 62 = .ok (.iconst 0, 1) := by decide +kernel
theorem dX11_due_63 : decode cX11_due 63 = .ok (.iastore, 1) := by decide +kernel
theorem dX11_due_64 : decode cX11_due 64 = .ok (.aload_n 0, 1) := by decide +kernel
theorem dX11_due_65 : decode cX11_due 65 = .ok (.getfield 133, 3) := by decide +kernel
theorem dX11_due_68 : decode cX11_due 68 = .ok (.iload_n 1, 1) := by decide +kernel
