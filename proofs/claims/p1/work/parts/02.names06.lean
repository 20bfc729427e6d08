theorem dX11_comes_45 : decode cX11_comes 45 = .ok (.aload_n 0, 1) := by decide +kernel
theorem dX11_comes_46 : decode cX11_comes 46 = .ok (.getfield 36, 3) := by decide +kernel
theorem dX11_comes_49 : decode cX11_comes 49 = .ok (.aload_n 0, 1) := by decide +kernel
theorem dX11_comes_50 : decode cX11_comes 50 = .ok (.getfield 242, 3) := by decide +kernel
theorem dX11_comes_53 : decode cX11_comes 53 = .ok (.iconst 1, 1) := by decide +kernel
theorem dX11_comes_54 : decode cX11_comes 54 = .ok (.isub, 1) := by decide +kernel
theorem dX11_comes_55 : decode cX11_comes 55 = .ok (.iaload, 1) := by decide +kernel
theorem dX11_comes_56 : decode cX11_comes 56 = .ok (.aload_n 0, 1) := by decide +kernel
theorem dX11_comes_57 : decode cX11_comes 57 = .ok (.getfield 39, 3) := by decide +kernel
theorem dX11_comes_60 : decode cX11_comes 60 = .ok (.aload_n 0, 1) := by decide +kernel
theorem dX11_comes_61 : decode cX11_comes 61 = .ok (.getfield 242, 3) := by decide +kernel
theorem dX11_comes_64 : decode cX11_comes 64 = .ok (.iconst 1, 1) := by decide +kernel
theorem dX11_comes_65 : decode cX11_comes 65 = .ok (.isub, 1) := by decide +kernel
theorem dX11_comes_66 : decode cX11_comes 66 = .ok (.iaload, 1) := by decide +kernel
theorem dX11_comes_67 : decode cX11_comes 67 = .ok (.aload_n 0, 1) := by decide +kernel
theorem dX11_comes_68 : decode cX11_comes 68 = .ok (.getfield 42, 3) := by decide +kernel
theorem dX11_comes_71 : decode cX11_comes 71 = .ok (.aload_n 0, 1) := by decide +kernel
theorem dX11_comes_72 : decode cX11_comes 72 = .ok (.getfield 242, 3) := by decide +kernel
theorem dX11_comes_75 : decode cX11_comes 75 = .ok (.iconst 1, 1) := by decide +kernel
theorem dX11_comes_76 : decode cX11_comes 76 = .ok (.isub, 1) := by decide +kernel
theorem dX11_comes_77 : decode cX11_comes 77 = .ok (.baload, 1) := by decide +kernel
theorem dX11_comes_78 : decode cX11_comes 78 = .ok (.invokevirtual 253, 3) := by decide +kernel
theorem dX11_comes_81 : decode cX11_comes 81 = .ok (.goto (-74), 3) := by decide +kernel
theorem dX11_comes_84 : decode cX11_comes 84 = .ok (.return_, 1) := by decide +kernel
theorem dX11_comes_85 : decode cX11_comes 85 = .ok (.aload_n 0, 1) := by decide +kernel
theorem dX11_comes_86 : decode cX11_comes 86 = .ok (.getfield 242, 3) := by decide +kernel
theorem dX11_comes_89 : decode cX11_comes 89 = .ok (.istore_n 1, 1) := by decide +kernel
theorem dX11_comes_90 : decode cX11_comes 90 = .ok (.aload_n 0, 1) := by decide +kernel
theorem dX11_comes_91 : decode cX11_comes 91 = .ok (.getfield 242, 3) := by decide +kernel
theorem dX11_comes_94 : decode cX11_comes 94 = .ok (.istore_n 2, 1) := by decide +kernel
theorem dX11_comes_95 : decode cX11_comes 95 = .ok (.iload_n 2, 1) := by decide +kernel
theorem dX11_comes_96 : decode cX11_comes 96 = .ok (.aload_n 0, 1) := by decide +kernel
theorem dX11_comes_97 : decode cX11_comes 97 = .ok (.getfield 236, 3) := by decide +kernel
theorem dX11_comes_100 : decode cX11_comes 100 = .ok (.if_icmp .ge 56, 3) := by decide +kernel
theorem dX11_comes_103 : decode cX11_comes 103 = .ok (.aload_n 0, 1) := by decide +kernel
theorem dX11_comes_104 : decode cX11_comes 104 = .ok (.getfield 33, 3) := by decide +kernel
theorem dX11_comes_107 : decode cX11_comes 107 = .ok (.iload_n 2, 1) := by decide +kernel
theorem dX11_comes_108 : decode cX11_comes 108 = .ok (.iaload, 1) := by decide +kernel
theorem dX11_comes_109 : decode cX11_comes 109 = .ok (.aload_n 0, 1) := by decide +kernel
theorem dX11_comes_110 : decode cX11_comes 110 = .ok (.getfield 207, 3) := by decide +kernel
theorem dX11_comes_113 : decode cX11_comes 113 = .ok (.if_icmp .ne 28, 3) := by decide +kernel
theorem dX11_comes_116 : decode cX11_comes 116 = .ok (.aload_n 0, 1) := by decide +kernel
theorem dX11_comes_117 : decode cX11_comes 117 = .ok (.aload_n 0, 1) := by decide +kernel
theorem dX11_comes_118 : decode cX11_comes 118 = .ok (.getfield 36, 3) := by decide +kernel
theorem dX11_comes_121 : decode cX11_comes 121 = .ok (.iload_n 2, 1) := by decide +kernel
theorem dX11_comes_122 : decode cX11_comes 122 = .ok (.iaload, 1) := by decide +kernel
theorem dX11_comes_123 : decode cX11_comes 123 = .ok (.aload_n 0, 1) := by decide +kernel
theorem dX11_comes_124 : decode cX11_comes 124 = .ok (.getfield 39, 3) := by decide +kernel
theorem dX11_comes_127 : decode cX11_comes 127 = .ok (.iload_n 2, 1) := by decide +kernel
theorem dX11_comes_128 : decode cX11_comes 128 = .ok (.iaload, 1) := by decide +kernel
theorem dX11_comes_129 : decode cX11_comes 129 = .ok (.aload_n 0, 1) := by decide +kernel
theorem dX11_comes_130 : decode cX11_comes 130 = .ok (.getfield 42, 3) := by decide +kernel
theorem dX11_comes_133 : decode cX11_comes 133 = .ok (.iload_n 2, 1) := by decide +kernel
theorem dX11_comes_134 : decode cX11_comes 134 = .ok (.baload, 1) := by decide +kernel
theorem dX11_comes_135 : decode cX11_comes 135 = .ok (.invokevirtual 253, 3) := by decide +kernel
theorem dX11_comes_138 : decode cX11_comes 138 = .ok (.goto 12, 3) := by decide +kernel
theorem dX11_comes_141 : decode cX11_comes 141 = .ok (.aload_n 0, 1) := by decide +kernel
theorem dX11_comes_142 : decode cX11_comes 142 = .ok (.iload_n 1, 1) := by decide +kernel
theorem dX11_comes_143 : decode cX11_comes 143 = .ok (.iload_n 2, 1) := by decide +kernel
theorem dX11_comes_144 : decode cX11_comes 144 = .ok (.invokevirtual 249, 3) := by decide +kernel
theorem dX11_comes_147 : decode cX11_comes 147 = .ok (.iinc 1 1, 3) := by decide +kernel
theorem dX11_comes_150 : decode cX11_comes 150 = .ok (.iinc 2 1, 3) := by decide +kernel
theorem dX11_comes_153 : decode cX11_comes 153 = .ok (.goto (-58), 3) := by decide +kernel
theorem dX11_comes_156 : decode cX11_comes 156 = .ok (.aload_n 0, 1) := by decide +kernel
theorem dX11_comes_157 : decode cX11_comes 157 = .ok (.iload_n 1, 1) := by decide +kernel
theorem dX11_comes_158 : decode cX11_comes 158 = .ok (.putfield 236, 3) := by decide +kernel
theorem dX11_comes_161 : decode cX11_comes 161 = .ok (.return_, 1) := by decide +kernel
theorem dX11_keptMany_0 : decode cX11_keptMany 0 = .ok (.iconst 0, 1) := by decide +kernel
theorem dX11_keptMany_1 : decode cX11_keptMany 1 = .ok (.istore_n 2, 1) := by decide +kernel
theorem dX11_keptMany_2 : decode cX11_keptMany 2 = .ok (.iconst 0, 1) := by decide +kernel
theorem dX11_keptMany_3 : decode cX11_keptMany 3 = .ok (.istore_n 3, 1) := by decide +kernel
theorem dX11_keptMany_4 : decode cX11_keptMany 4 = .ok (.iload_n 3, 1) := by decide +kernel
theorem dX11_keptMany_5 : decode cX11_keptMany 5 = .ok (.sipush 200, 3) := by decide +kernel
theorem dX11_keptMany_8 : decode cX11_keptMany 8 = .ok (.if_icmp .ge 32, 3) := by decide +kernel
theorem dX11_keptMany_11 : decode cX11_keptMany 11 = .ok (.iload_n 2, 1) := by decide +kernel
theorem dX11_keptMany_12 : decode cX11_keptMany 12 = .ok (.aload_n 0, 1) := by decide +kernel
theorem dX11_keptMany_13 : decode cX11_keptMany 13 = .ok (.getfield 76, 3) := by decide +kernel
theorem dX11_keptMany_16 : decode cX11_keptMany 16 = .ok (.sipush 200, 3) := by decide +kernel
theorem dX11_keptMany_19 : decode cX11_keptMany 19 = .ok (.iload_n 1, 1) := by decide +kernel
theorem dX11_keptMany_20 : decode cX11_keptMany 20 = .ok (.imul, 1) := by decide +kernel
theorem dX11_keptMany_21 : decode cX11_keptMany 21 = .ok (.iload_n 3, 1) := by decide +kernel
theorem dX11_keptMany_22 : decode cX11_keptMany 22 = .ok (.iadd, 1) := by decide +kernel
theorem dX11_keptMany_23 : decode cX11_keptMany 23 = .ok (.baload, 1) := by decide +kernel
theorem dX11_keptMany_24 : decode cX11_keptMany 24 = .ok (.ifCond .eq 7, 3) := by decide +kernel
theorem dX11_keptMany_27 : decode cX11_keptMany 27 = .ok (.iconst 1, 1) := by decide +kernel
theorem dX11_keptMany_28 : decode cX11_keptMany 28 = .ok (.goto 4, 3) := by decide +kernel
theorem dX11_keptMany_31 : decode cX11_keptMany 31 = .ok (.iconst 0, 1) := by decide +kernel
theorem dX11_keptMany_32 : decode cX11_keptMany 32 = .ok (.iadd, 1) := by decide +kernel
theorem dX11_keptMany_33 : decode cX11_keptMany 33 = .ok (.istore_n 2, 1) := by decide +kernel
theorem dX11_keptMany_34 : decode cX11_keptMany 34 = .ok (.iinc 3 1, 3) := by decide +kernel
theorem dX11_keptMany_37 : decode cX11_keptMany 37 = .ok (.goto (-33), 3) := by decide +kernel
theorem dX11_keptMany_40 : decode cX11_keptMany 40 = .ok (.iload_n 2, 1) := by decide +kernel
theorem dX11_keptMany_41 : decode cX11_keptMany 41 = .ok (.ireturn, 1) := by decide +kernel
set_option maxRecDepth 20000 in
theorem ggX11_receives_X11_keptMany : GoodIn wsX11_receives wsX11_keptMany := goodIn_r _ [14, 5, 124, 125, 126, 127, 128, 129, 130, 131, 132, 133, 134, 135, 136, 137, 138, 139, 140, 141, 142, 143, 144, 145, 146, 147, 148, 149, 150, 151, 152, 153, 154, 155, 156, 157, 158, 159, 160, 161, 162, 163, 164, 165, 166, 167, 168, 169, 170, 171, 172, 173, 174, 175, 176, 177, 178, 179, 180, 181, 182, 183, 184, 185, 186, 187, 188, 189, 190, 191, 192, 193, 194, 195, 196, 197] (by decide +kernel) (by decide +kernel)
set_option maxRecDepth 20000 in
theorem gX11_receives_X11_keptMany : GoodIn wsX11_receives (wsV RX11 260 RX11 yX11_keptMany wsX11_keptMany) := goodIn_app (goodIn_of _ (by decide +kernel)) ggX11_receives_X11_keptMany
set_option maxRecDepth 20000 in
theorem ggX11_receives_X11_answer : GoodIn wsX11_receives wsX11_answer := goodIn_r _ [18, 8, 19, 20, 21, 22, 23, 9, 24, 25, 26, 3, 27, 4, 28, 29, 5, 30, 31, 32, 13, 33, 34, 35, 36, 37, 38, 39, 40, 41, 42, 43, 44, 45, 46, 47, 48, 49, 50, 51, 52, 53, 54, 55, 56, 57, 58, 59, 60, 61, 62, 63, 64, 65, 66, 67, 68, 69, 70, 71, 72, 73, 74, 75, 76, 77, 78, 79, 80, 81, 82, 83, 84, 85, 86, 87, 88, 89, 90, 91, 92, 93, 94, 95, 96, 97, 98, 99, 100, 101, 102, 103, 104, 105, 106, 107, 108, 109, 110, 111, 112, 113, 114, 115, 116, 117, 118, 119, 120, 121, 122, 123, 124, 125, 126, 127, 128, 129, 130, 131, 132, 133, 134, 135, 136, 137, 138, 139, 140, 141, 142, 143, 144, 145, 146, 147, 148, 149, 150, 151, 152, 153, 154, 155, 156, 157, 158, 159, 160, 161, 162, 163, 164, 165, 166, 167, 168, 169, 170, 171, 172, 173, 174, 175, 176, 177, 178, 179, 180, 181, 182, 183, 184, 185, 186, 187, 188, 189, 190, 191, 192, 193, 194, 195, 196, 197] (by decide +kernel) (by decide +kernel)
set_option maxRecDepth 20000 in
theorem gX11_receives_X11_answer : GoodIn wsX11_receives (wsV RX11 264 RX11 yX11_answer wsX11_answer) := goodIn_app (goodIn_of _ (by decide +kernel)) ggX11_receives_X11_answer
theorem dX11_receives_0 : decode cX11_receives 0 = .ok (.aload_n 0, 1) := by decide +kernel
theorem dX11_receives_1 : decode cX11_receives 1 = .ok (.dup, 1) := by decide +kernel
theorem dX11_receives_2 : decode cX11_receives 2 = .ok (.getfield 257, 3) := by decide +kernel
theorem dX11_receives_5 : decode cX11_receives 5 = .ok (.iconst 1, 1) := by decide +kernel
theorem dX11_receives_6 : decode cX11_receives 6 = .ok (.iadd, 1) := by decide +kernel
theorem dX11_receives_7 : decode cX11_receives 7 = .ok (.putfield 257, 3) := by decide +kernel
theorem dX11_receives_10 : decode cX11_receives 10 = .ok (.aload_n 0, 1) := by decide +kernel
theorem dX11_receives_11 : decode cX11_receives 11 = .ok (.getfield 82, 3) := by decide +kernel
theorem dX11_receives_14 : decode cX11_receives 14 = .ok (.iload_n 1, 1) := by decide +kernel
theorem dX11_receives_15 : decode cX11_receives 15 = .ok (.dup2, 1) := by decide +kernel
theorem dX11_receives_16 : decode cX11_receives 16 = .ok (.iaload, 1) := by decide +kernel
theorem dX11_receives_17 : decode cX11_receives 17 = .ok (.iconst 1, 1) := by decide +kernel
theorem dX11_receives_18 : decode cX11_receives 18 = .ok (.iadd, 1) := by decide +kernel
theorem dX11_receives_19 : decode cX11_receives 19 = .ok (.iastore, 1) := by decide +kernel
theorem dX11_receives_20 : decode cX11_receives 20 = .ok (.aload_n 0, 1) := by decide +kernel
theorem dX11_receives_21 : decode cX11_receives 21 = .ok (.iload_n 1, 1) := by decide +kernel
theorem dX11_receives_22 : decode cX11_receives 22 = .ok (.invokevirtual 260, 3) := by decide +kernel
theorem dX11_receives_25 : decode cX11_receives 25 = .ok (.ifCond .ne 7, 3) := by decide +kernel
theorem dX11_receives_28 : decode cX11_receives 28 = .ok (.iconst 1, 1) := by decide +kernel
theorem dX11_receives_29 : decode cX11_receives 29 = .ok (.goto 4, 3) := by decide +kernel
theorem dX11_receives_32 : decode cX11_receives 32 = .ok (.iconst 0, 1) := by decide +kernel
theorem dX11_receives_33 : decode cX11_receives 33 = .ok (.istore 4, 2) := by decide +kernel
theorem dX11_receives_35 : decode cX11_receives 35 = .ok (.iconst 0, 1) := by decide +kernel
theorem dX11_receives_36 : decode cX11_receives 36 = .ok (.istore 5, 2) := by decide +kernel
theorem dX11_receives_38 : decode cX11_receives 38 = .ok (.iload_n 2, 1) := by decide +kernel
theorem dX11_receives_39 : decode cX11_receives 39 = .ok (.aload_n 0, 1) := by decide +kernel
theorem dX11_receives_40 : decode cX11_receives 40 = .ok (.getfield 70, 3) := by decide +kernel
theorem dX11_receives_43 : decode cX11_receives 43 = .ok (.iload_n 1, 1) := by decide +kernel
theorem dX11_receives_44 : decode cX11_receives 44 = .ok (.iaload, 1) := by decide +kernel
theorem dX11_receives_45 : decode cX11_receives 45 = .ok (.isub, 1) := by decide +kernel
theorem dX11_receives_46 : decode cX11_receives 46 = .ok (.istore 6, 2) := by decide +kernel
theorem dX11_receives_48 : decode cX11_receives 48 = .ok (.iload 6, 2) := by decide +kernel
theorem dX11_receives_50 : decode cX11_receives 50 = .ok (.ifCond .lt 30, 3) := by decide +kernel
theorem dX11_receives_53 : decode cX11_receives 53 = .ok (.iload 6, 2) := by decide +kernel
theorem dX11_receives_55 : decode cX11_receives 55 = .ok (.aload_n 0, 1) := by decide +kernel
theorem dX11_receives_56 : decode cX11_receives 56 = .ok (.getfield 73, 3) := by decide +kernel
theorem dX11_receives_59 : decode cX11_receives 59 = .ok (.iload_n 1, 1) := by decide +kernel
theorem dX11_receives_60 : decode cX11_receives 60 = .ok (.iaload, 1) := by decide +kernel
theorem dX11_receives_61 : decode cX11_receives 61 = .ok (.if_icmp .ge 19, 3) := by decide +kernel
theorem dX11_receives_64 : decode cX11_receives 64 = .ok (.aload_n 0, 1) := by decide +kernel
theorem dX11_receives_65 : decode cX11_receives 65 = .ok (.getfield 76, 3) := by decide +kernel
theorem dX11_receives_68 : decode cX11_receives 68 = .ok (.sipush 200, 3) := by decide +kernel
theorem dX11_receives_71 : decode cX11_receives 71 = .ok (.iload_n 1, 1) := by decide +kernel
theorem dX11_receives_72 : decode cX11_receives 72 = .ok (.imul, 1) := by decide +kernel
theorem dX11_receives_73 : decode cX11_receives 73 = .ok (.iload 6, 2) := by decide +kernel
theorem dX11_receives_75 : decode cX11_receives 75 = .ok (.iadd, 1) := by decide +kernel
theorem dX11_receives_76 : decode cX11_receives 76 = .ok (.baload, 1) := by decide +kernel
theorem dX11_receives_77 : decode cX11_receives 77 = .ok (.ifCond .eq 16, 3) := by decide +kernel
theorem dX11_receives_80 : decode cX11_receives 80 = .ok (.aload_n 0, 1) := by decide +kernel
theorem dX11_receives_81 : decode cX11_receives 81 = .ok (.getfield 85, 3) := by decide +kernel
theorem dX11_receives_84 : decode cX11_receives 84 = .ok (.iload_n 1, 1) := by decide +kernel
theorem dX11_receives_85 : decode cX11_receives 85 = .ok (.dup2, 1) := by decide +kernel
theorem dX11_receives_86 : decode cX11_receives 86 = .ok (.iaload, 1) := by decide +kernel
theorem dX11_receives_87 : decode cX11_receives 87 = .ok (.iconst 1, 1) := by decide +kernel
theorem dX11_receives_88 : decode cX11_receives 88 = .ok (.iadd, 1) := by decide +kernel
theorem dX11_receives_89 : decode cX11_receives 89 = .ok (.iastore, 1) := by decide +kernel
theorem dX11_receives_90 : decode cX11_receives 90 = .ok (.goto 125, 3) := by decide +kernel
theorem dX11_receives_93 : decode cX11_receives 93 = .ok (.iload 6, 2) := by decide +kernel
theorem dX11_receives_95 : decode cX11_receives 95 = .ok (.ifCond .le 20, 3) := by decide +kernel
theorem dX11_receives_98 : decode cX11_receives 98 = .ok (.aload_n 0, 1) := by decide +kernel
theorem dX11_receives_99 : decode cX11_receives 99 = .ok (.getfield 76, 3) := by decide +kernel
theorem dX11_receives_102 : decode cX11_receives 102 = .ok (.sipush 200, 3) := by decide +kernel
theorem dX11_receives_105 : decode cX11_receives 105 = .ok (.iload_n 1, 1) := by decide +kernel
theorem dX11_receives_106 : decode cX11_receives 106 = .ok (.imul, 1) := by decide +kernel
theorem dX11_receives_107 : decode cX11_receives 107 = .ok (.iload 6, 2) := by decide +kernel
theorem dX11_receives_109 : decode cX11_receives 109 = .ok (.iadd, 1) := by decide +kernel
theorem dX11_receives_110 : decode cX11_receives 110 = .ok (.iconst 1, 1) := by decide +kernel
theorem dX11_receives_111 : decode cX11_receives 111 = .ok (.bastore, 1) := by decide +kernel
theorem dX11_receives_112 : decode cX11_receives 112 = .ok (.goto 103, 3) := by decide +kernel
theorem dX11_receives_115 : decode cX11_receives 115 = .ok (.iconst 1, 1) := by decide +kernel
theorem dX11_receives_116 : decode cX11_receives 116 = .ok (.istore 5, 2) := by decide +kernel
theorem dX11_receives_118 : decode cX11_receives 118 = .ok (.aload_n 0, 1) := by decide +kernel
theorem dX11_receives_119 : decode cX11_receives 119 = .ok (.getfield 76, 3) := by decide +kernel
theorem dX11_receives_122 : decode cX11_receives 122 = .ok (.sipush 200, 3) := by decide +kernel
theorem dX11_receives_125 : decode cX11_receives 125 = .ok (.iload_n 1, 1) := by decide +kernel
theorem dX11_receives_126 : decode cX11_receives 126 = .ok (.imul, 1) := by decide +kernel
theorem dX11_receives_127 : decode cX11_receives 127 = .ok (.iconst 1, 1) := by decide +kernel
theorem dX11_receives_128 : decode cX11_receives 128 = .ok (.bastore, 1) := by decide +kernel
theorem dX11_receives_129 : decode cX11_receives 129 = .ok (.aload_n 0, 1) := by decide +kernel
theorem dX11_receives_130 : decode cX11_receives 130 = .ok (.getfield 76, 3) := by decide +kernel
theorem dX11_receives_133 : decode cX11_receives 133 = .ok (.sipush 200, 3) := by decide +kernel
theorem dX11_receives_136 : decode cX11_receives 136 = .ok (.iload_n 1, 1) := by decide +kernel
theorem dX11_receives_137 : decode cX11_receives 137 = .ok (.imul, 1) := by decide +kernel
theorem dX11_receives_138 : decode cX11_receives 138 = .ok (.baload, 1) := by decide +kernel
theorem dX11_receives_139 : decode cX11_receives 139 = .ok (.ifCond .eq 76, 3) := by decide +kernel
theorem dX11_receives_142 : decode cX11_receives 142 = .ok (.iconst 0, 1) := by decide +kernel
theorem dX11_receives_143 : decode cX11_receives 143 = .ok (.istore 7, 2) := by decide +kernel
theorem dX11_receives_145 : decode cX11_receives 145 = .ok (.iload 7, 2) := by decide +kernel
theorem dX11_receives_147 : decode cX11_receives 147 = .ok (.sipush 199, 3) := by decide +kernel
theorem dX11_receives_150 : decode cX11_receives 150 = .ok (.if_icmp .ge 37, 3) := by decide +kernel
theorem dX11_receives_153 : decode cX11_receives 153 = .ok (.aload_n 0, 1) := by decide +kernel
theorem dX11_receives_154 : decode cX11_receives 154 = .ok (.getfield 76, 3) := by decide +kernel
theorem dX11_receives_157 : decode cX11_receives 157 = .ok (.sipush 200, 3) := by decide +kernel
theorem dX11_receives_160 : decode cX11_receives 160 = .ok (.iload_n 1, 1) := by decide +kernel
theorem dX11_receives_161 : decode cX11_receives 161 = .ok (.imul, 1) := by decide +kernel
theorem dX11_receives_162 : decode cX11_receives 162 = .ok (.iload 7, 2) := by decide +kernel
theorem dX11_receives_164 : decode cX11_receives 164 = .ok (.iadd, 1) := by decide +kernel
theorem dX11_receives_165 : decode cX11_receives 165 = .ok (.aload_n 0, 1) := by decide +kernel
theorem dX11_receives_166 : decode cX11_receives 166 = .ok (.getfield 76, 3) := by decide +kernel
theorem dX11_receives_169 : decode cX11_receives 169 = .ok (.sipush 200, 3) := by decide +kernel
theorem dX11_receives_172 : decode cX11_receives 172 = .ok (.iload_n 1, 1) := by decide +kernel
theorem dX11_receives_173 : decode cX11_receives 173 = .ok (.imul, 1) := by decide +kernel
theorem dX11_receives_174 : decode cX11_receives 174 = .ok (.iload 7, 2) := by decide +kernel
theorem dX11_receives_176 : decode cX11_receives 176 = .ok (.iadd, 1) := by decide +kernel
theorem dX11_receives_177 : decode cX11_receives 177 = .ok (.iconst 1, 1) := by decide +kernel
theorem dX11_receives_178 : decode cX11_receives 178 = .ok (.iadd, 1) := by decide +kernel
theorem dX11_receives_179 : decode cX11_receives 179 = .ok (.baload, 1) := by decide +kernel
theorem dX11_receives_180 : decode cX11_receives 180 = .ok (.bastore, 1) := by decide +kernel
theorem dX11_receives_181 : decode cX11_receives 181 = .ok (.iinc 7 1, 3) := by decide +kernel
theorem dX11_receives_184 : decode cX11_receives 184 = .ok (.goto (-39), 3) := by decide +kernel
theorem dX11_receives_187 : decode cX11_receives 187 = .ok (.aload_n 0, 1) := by decide +kernel
theorem dX11_receives_188 : decode cX11_receives 188 = .ok (.getfield 76, 3) := by decide +kernel
theorem dX11_receives_191 : decode cX11_receives 191 = .ok (.sipush 200, 3) := by decide +kernel
theorem dX11_receives_194 : decode cX11_receives 194 = .ok (.iload_n 1, 1) := by decide +kernel
theorem dX11_receives_195 : decode cX11_receives 195 = .ok (.imul, 1) := by decide +kernel
theorem dX11_receives_196 : decode cX11_receives 196 = .ok (.sipush 199, 3) := by decide +kernel
theorem dX11_receives_199 : decode cX11_receives 199 = .ok (.iadd, 1) := by decide +kernel
theorem dX11_receives_200 : decode cX11_receives 200 = .ok (.iconst 0, 1) := by decide +kernel
theorem dX11_receives_201 : decode cX11_receives 201 = .ok (.bastore, 1) := by decide +kernel
theorem dX11_receives_202 : decode cX11_receives 202 = .ok (.aload_n 0, 1) := by decide +kernel
theorem dX11_receives_203 : decode cX11_receives 203 = .ok (.getfield 70, 3) := by decide +kernel
theorem dX11_receives_206 : decode cX11_receives 206 = .ok (.iload_n 1, 1) := by decide +kernel
theorem dX11_receives_207 : decode cX11_receives 207 = .ok (.dup2, 1) := by decide +kernel
theorem dX11_receives_208 : decode cX11_receives 208 = .ok (.iaload, 1) := by decide +kernel
theorem dX11_receives_209 : decode cX11_receives 209 = .ok (.iconst 1, 1) := by decide +kernel
theorem dX11_receives_210 : decode cX11_receives 210 = .ok (.iadd, 1) := by decide +kernel
theorem dX11_receives_211 : decode cX11_receives 211 = .ok (.iastore, 1) := by decide +kernel
theorem dX11_receives_212 : decode cX11_receives 212 = .ok (.goto (-83), 3) := by decide +kernel
theorem dX11_receives_215 : decode cX11_receives 215 = .ok (.aload_n 0, 1) := by decide +kernel
theorem dX11_receives_216 : decode cX11_receives 216 = .ok (.getfield 67, 3) := by decide +kernel
theorem dX11_receives_219 : decode cX11_receives 219 = .ok (.iload_n 1, 1) := by decide +kernel
theorem dX11_receives_220 : decode cX11_receives 220 = .ok (.baload, 1) := by decide +kernel
theorem dX11_receives_221 : decode cX11_receives 221 = .ok (.ifCond .eq 47, 3) := by decide +kernel
theorem dX11_receives_224 : decode cX11_receives 224 = .ok (.iload 5, 2) := by decide +kernel
theorem dX11_receives_226 : decode cX11_receives 226 = .ok (.ifCond .eq 42, 3) := by decide +kernel
theorem dX11_receives_229 : decode cX11_receives 229 = .ok (.iload 4, 2) := by decide +kernel
theorem dX11_receives_231 : decode cX11_receives 231 = .ok (.ifCond .eq 37, 3) := by decide +kernel
theorem dX11_receives_234 : decode cX11_receives 234 = .ok (.aload_n 0, 1) := by decide +kernel
theorem dX11_receives_235 : decode cX11_receives 235 = .ok (.iload_n 1, 1) := by decide +kernel
theorem dX11_receives_236 : decode cX11_receives 236 = .ok (.invokevirtual 260, 3) := by decide +kernel
theorem dX11_receives_239 : decode cX11_receives 239 = .ok (.ifCond .ne 29, 3) := by decide +kernel
theorem dX11_receives_242 : decode cX11_receives 242 = .ok (.aload_n 0, 1) := by decide +kernel
theorem dX11_receives_243 : decode cX11_receives 243 = .ok (.getfield 88, 3) := by decide +kernel
theorem dX11_receives_246 : decode cX11_receives 246 = .ok (.iload_n 1, 1) := by decide +kernel
theorem dX11_receives_247 : decode cX11_receives 247 = .ok (.iaload, 1) := by decide +kernel
theorem dX11_receives_248 : decode cX11_receives 248 = .ok (.iconst (-1), 1) := by decide +kernel
theorem dX11_receives_249 : decode cX11_receives 249 = .ok (.if_icmp .ne 19, 3) := by decide +kernel
theorem dX11_receives_252 : decode cX11_receives 252 = .ok (.aload_n 0, 1) := by decide +kernel
theorem dX11_receives_253 : decode cX11_receives 253 = .ok (.getfield 88, 3) := by decide +kernel
theorem dX11_receives_256 : decode cX11_receives 256 = .ok (.iload_n 1, 1) := by decide +kernel
theorem dX11_receives_257 : decode cX11_receives 257 = .ok (.aload_n 0, 1) := by decide +kernel
theorem dX11_receives_258 : decode cX11_receives 258 = .ok (.getfield 207, 3) := by decide +kernel
theorem dX11_receives_261 : decode cX11_receives 261 = .ok (.bipush 100, 2) := by decide +kernel
theorem dX11_receives_263 : decode cX11_receives 263 = .ok (.iadd, 1) := by decide +kernel
theorem dX11_receives_264 : decode cX11_receives 264 = .ok (.iastore, 1) := by decide +kernel
theorem dX11_receives_265 : decode cX11_receives 265 = .ok (.goto 17, 3) := by decide +kernel
theorem dX11_receives_268 : decode cX11_receives 268 = .ok (.aload_n 0, 1) := by decide +kernel
theorem dX11_receives_269 : decode cX11_receives 269 = .ok (.iload_n 1, 1) := by decide +kernel
theorem dX11_receives_270 : decode cX11_receives 270 = .ok (.iload_n 3, 1) := by decide +kernel
theorem dX11_receives_271 : decode cX11_receives 271 = .ok (.ifCond .ne 7, 3) := by decide +kernel
theorem dX11_receives_274 : decode cX11_receives 274 = .ok (.iconst 1, 1) := by decide +kernel
theorem dX11_receives_275 : decode cX11_receives 275 = .ok (.goto 4, 3) := by decide +kernel
theorem dX11_receives_278 : decode cX11_receives 278 = .ok (.iconst 0, 1) := by decide +kernel
theorem dX11_receives_279 : decode cX11_receives 279 = .ok (.invokevirtual 264, 3) := by decide +kernel
theorem dX11_receives_282 : decode cX11_receives 282 = .ok (.return_, 1) := by decide +kernel
set_option maxRecDepth 20000 in
theorem ggX11_answer_X11_acksDown : GoodIn wsX11_answer wsX11_acksDown := goodIn_r _ [21, 3, 6, 7, 9, 10, 12, 14, 15, 4, 22, 23, 24, 20, 25, 26, 27, 28, 29, 30, 31, 32, 33, 34, 35, 36, 37, 38, 39, 40, 41, 42, 43, 44, 45, 46, 47, 48, 49, 50, 51, 52, 53, 54, 55, 56, 57, 58, 59, 60, 61, 62, 63, 64, 65, 66, 67, 68, 69, 70, 71, 72, 73, 74, 75, 76, 77, 78, 79, 80, 81, 82, 83, 84, 85, 86, 87, 88, 89, 90, 91, 92, 93, 94, 95, 96, 97, 98, 99, 100, 101, 102, 103, 104, 105, 106, 107, 108, 109, 110, 111, 112, 113, 114, 115, 116, 117, 118, 119, 120, 121, 122, 123, 124, 125, 126, 127, 128, 129, 130, 131, 132, 133, 134, 135, 136, 137, 138, 139, 140, 141, 142, 143, 144, 145, 146, 147, 148, 149, 150, 151, 152, 153, 154, 155, 156, 157, 158, 159, 160, 161, 162, 163, 164, 165, 166, 167, 168, 169, 170, 171, 172, 173, 174, 175, 176, 177, 178, 179, 180, 181, 182, 183, 184, 185] (by decide +kernel) (by decide +kernel)
set_option maxRecDepth 20000 in
theorem gX11_answer_X11_acksDown : GoodIn wsX11_answer (wsV RX11 274 RX11 yX11_acksDown wsX11_acksDown) := goodIn_app (goodIn_of _ (by decide +kernel)) ggX11_answer_X11_acksDown
theorem dX11_answer_0 : decode cX11_answer 0 = .ok (.aload_n 0, 1) := by decide +kernel
theorem dX11_answer_1 : decode cX11_answer 1 = .ok (.getfield 88, 3) := by decide +kernel
theorem dX11_answer_4 : decode cX11_answer 4 = .ok (.iload_n 1, 1) := by decide +kernel
theorem dX11_answer_5 : decode cX11_answer 5 = .ok (.iconst (-1), 1) := by decide +kernel
theorem dX11_answer_6 : decode cX11_answer 6 = .ok (.iastore, 1) := by decide +kernel
theorem dX11_answer_7 : decode cX11_answer 7 = .ok (.aload_n 0, 1) := by decide +kernel
theorem dX11_answer_8 : decode cX11_answer 8 = .ok (.getfield 79, 3) := by decide +kernel
theorem dX11_answer_11 : decode cX11_answer 11 = .ok (.iload_n 1, 1) := by decide +kernel
theorem dX11_answer_12 : decode cX11_answer 12 = .ok (.dup2, 1) := by decide +kernel
theorem dX11_answer_13 : decode cX11_answer 13 = .ok (.iaload, 1) := by decide +kernel
theorem dX11_answer_14 : decode cX11_answer 14 = .ok (.iconst 1, 1) := by decide +kernel
theorem dX11_answer_15 : decode cX11_answer 15 = .ok (.iadd, 1) := by decide +kernel
theorem dX11_answer_16 : decode cX11_answer 16 = .ok (.iastore, 1) := by decide +kernel
theorem dX11_answer_17 : decode cX11_answer 17 = .ok (.aload_n 0, 1) := by decide +kernel
theorem dX11_answer_18 : decode cX11_answer 18 = .ok (.getfield 268, 3) := by decide +kernel
theorem dX11_answer_21 : decode cX11_answer 21 = .ok (.sipush 6000, 3) := by decide +kernel
theorem dX11_answer_24 : decode cX11_answer 24 = .ok (.if_icmp .ne 12, 3) := by decide +kernel
theorem dX11_answer_27 : decode cX11_answer 27 = .ok (.aload_n 0, 1) := by decide +kernel
theorem dX11_answer_28 : decode cX11_answer 28 = .ok (.aload_n 0, 1) := by decide +kernel
theorem dX11_answer_29 : decode cX11_answer 29 = .ok (.getfield 271, 3) := by decide +kernel
theorem dX11_answer_32 : decode cX11_answer 32 = .ok (.iconst 0, 1) := by decide +kernel
theorem dX11_answer_33 : decode cX11_answer 33 = .ok (.invokevirtual 274, 3) := by decide +kernel
theorem dX11_answer_36 : decode cX11_answer 36 = .ok (.aload_n 0, 1) := by decide +kernel
theorem dX11_answer_37 : decode cX11_answer 37 = .ok (.aload_n 0, 1) := by decide +kernel
theorem dX11_answer_38 : decode cX11_answer 38 = .ok (.getfield 271, 3) := by decide +kernel
theorem dX11_answer_41 : decode cX11_answer 41 = .ok (.aload_n 0, 1) := by decide +kernel
theorem dX11_answer_42 : decode cX11_answer 42 = .ok (.getfield 268, 3) := by decide +kernel
theorem dX11_answer_45 : decode cX11_answer 45 = .ok (.if_icmp .ge 37, 3) := by decide +kernel
theorem dX11_answer_48 : decode cX11_answer 48 = .ok (.aload_n 0, 1) := by decide +kernel
theorem dX11_answer_49 : decode cX11_answer 49 = .ok (.getfield 277, 3) := by decide +kernel
theorem dX11_answer_52 : decode cX11_answer 52 = .ok (.ifCond .ne 26, 3) := by decide +kernel
theorem dX11_answer_55 : decode cX11_answer 55 = .ok (.aload_n 0, 1) := by decide +kernel
theorem dX11_answer_56 : decode cX11_answer 56 = .ok (.getfield 45, 3) := by decide +kernel
theorem dX11_answer_59 : decode cX11_answer 59 = .ok (.aload_n 0, 1) := by decide +kernel
theorem dX11_answer_60 : decode cX11_answer 60 = .ok (.getfield 268, 3) := by decide +kernel
theorem dX11_answer_63 : decode cX11_answer 63 = .ok (.iconst 1, 1) := by decide +kernel
theorem dX11_answer_64 : decode cX11_answer 64 = .ok (.isub, 1) := by decide +kernel
theorem dX11_answer_65 : decode cX11_answer 65 = .ok (.iaload, 1) := by decide +kernel
theorem dX11_answer_66 : decode cX11_answer 66 = .ok (.aload_n 0, 1) := by decide +kernel
theorem dX11_answer_67 : decode cX11_answer 67 = .ok (.getfield 207, 3) := by decide +kernel
theorem dX11_answer_70 : decode cX11_answer 70 = .ok (.aload_n 0, 1) := by decide +kernel
theorem dX11_answer_71 : decode cX11_answer 71 = .ok (.getfield 19, 3) := by decide +kernel
theorem dX11_answer_74 : decode cX11_answer 74 = .ok (.iadd, 1) := by decide +kernel
theorem dX11_answer_75 : decode cX11_answer 75 = .ok (.if_icmp .le 7, 3) := by decide +kernel
theorem dX11_answer_78 : decode cX11_answer 78 = .ok (.iconst 1, 1) := by decide +kernel
theorem dX11_answer_79 : decode cX11_answer 79 = .ok (.goto 4, 3) := by decide +kernel
theorem dX11_answer_82 : decode cX11_answer 82 = .ok (.iconst 0, 1) := by decide +kernel
theorem dX11_answer_83 : decode cX11_answer 83 = .ok (.putfield 277, 3) := by decide +kernel
theorem dX11_answer_86 : decode cX11_answer 86 = .ok (.aload_n 0, 1) := by decide +kernel
theorem dX11_answer_87 : decode cX11_answer 87 = .ok (.getfield 45, 3) := by decide +kernel
theorem dX11_answer_90 : decode cX11_answer 90 = .ok (.aload_n 0, 1) := by decide +kernel
theorem dX11_answer_91 : decode cX11_answer 91 = .ok (.getfield 268, 3) := by decide +kernel
theorem dX11_answer_94 : decode cX11_answer 94 = .ok (.aload_n 0, 1) := by decide +kernel
theorem dX11_answer_95 : decode cX11_answer 95 = .ok (.getfield 207, 3) := by decide +kernel
theorem dX11_answer_98 : decode cX11_answer 98 = .ok (.aload_n 0, 1) := by decide +kernel
theorem dX11_answer_99 : decode cX11_answer 99 = .ok (.getfield 19, 3) := by decide +kernel
theorem dX11_answer_102 : decode cX11_answer 102 = .ok (.iadd, 1) := by decide +kernel
theorem dX11_answer_103 : decode cX11_answer 103 = .ok (.iastore, 1) := by decide +kernel
theorem dX11_answer_104 : decode cX11_answer 104 = .ok (.aload_n 0, 1) := by decide +kernel
theorem dX11_answer_105 : decode cX11_answer 105 = .ok (.getfield 48, 3) := by decide +kernel
theorem dX11_answer_108 : decode cX11_answer 108 = .ok (.aload_n 0, 1) := by decide +kernel
theorem dX11_answer_109 : decode cX11_answer 109 = .ok (.getfield 268, 3) := by decide +kernel
theorem dX11_answer_112 : decode cX11_answer 112 = .ok (.iload_n 1, 1) := by decide +kernel
theorem dX11_answer_113 : decode cX11_answer 113 = .ok (.iastore, 1) := by decide +kernel
theorem dX11_answer_114 : decode cX11_answer 114 = .ok (.aload_n 0, 1) := by decide +kernel
theorem dX11_answer_115 : decode cX11_answer 115 = .ok (.getfield 51, 3) := by decide +kernel
theorem dX11_answer_118 : decode cX11_answer 118 = .ok (.aload_n 0, 1) := by decide +kernel
theorem dX11_answer_119 : decode cX11_answer 119 = .ok (.getfield 268, 3) := by decide +kernel
theorem dX11_answer_122 : decode cX11_answer 122 = .ok (.aload_n 0, 1) := by decide +kernel
theorem dX11_answer_123 : decode cX11_answer 123 = .ok (.getfield 70, 3) := by decide +kernel
theorem dX11_answer_126 : decode cX11_answer 126 = .ok (.iload_n 1, 1) := by decide +kernel
theorem dX11_answer_127 : decode cX11_answer 127 = .ok (.iaload, 1) := by decide +kernel
theorem dX11_answer_128 : decode cX11_answer 128 = .ok (.iastore, 1) := by decide +kernel
theorem dX11_answer_129 : decode cX11_answer 129 = .ok (.aload_n 0, 1) := by decide +kernel
theorem dX11_answer_130 : decode cX11_answer 130 = .ok (.getfield 54, 3) := by decide +kernel
theorem dX11_answer_133 : decode cX11_answer 133 = .ok (.aload_n 0, 1) := by decide +kernel
theorem dX11_answer_134 : decode cX11_answer 134 = .ok (.getfield 268, 3) := by decide +kernel
theorem dX11_answer_137 : decode cX11_answer 137 = .ok (.aload_n 0, 1) := by decide +kernel
theorem dX11_answer_138 : decode cX11_answer 138 = .ok (.getfield 73, 3) := by decide +kernel
theorem dX11_answer_141 : decode cX11_answer 141 = .ok (.iload_n 1, 1) := by decide +kernel
theorem dX11_answer_142 : decode cX11_answer 142 = .ok (.iaload, 1) := by decide +kernel
theorem dX11_answer_143 : decode cX11_answer 143 = .ok (.iastore, 1) := by decide +kernel
theorem dX11_answer_144 : decode cX11_answer 144 = .ok (.aload_n 0, 1) := by decide +kernel
theorem dX11_answer_145 : decode cX11_answer 145 = .ok (.getfield 57, 3) := by decide +kernel
theorem dX11_answer_148 : decode cX11_answer 148 = .ok (.aload_n 0, 1) := by decide +kernel
theorem dX11_answer_149 : decode cX11_answer 149 = .ok (.getfield 268, 3) := by decide +kernel
theorem dX11_answer_152 : decode cX11_answer 152 = .ok (.iload_n 2, 1) := by decide +kernel
theorem dX11_answer_153 : decode cX11_answer 153 = .ok (.bastore, 1) := by decide +kernel
theorem dX11_answer_154 : decode cX11_answer 154 = .ok (.iconst 0, 1) := by decide +kernel
theorem dX11_answer_155 : decode cX11_answer 155 = .ok (.istore_n 3, 1) := by decide +kernel
theorem dX11_answer_156 : decode cX11_answer 156 = .ok (.iload_n 3, 1) := by decide +kernel
theorem dX11_answer_157 : decode cX11_answer 157 = .ok (.sipush 200, 3) := by decide +kernel
theorem dX11_answer_160 : decode cX11_answer 160 = .ok (.if_icmp .ge 36, 3) := by decide +kernel
theorem dX11_answer_163 : decode cX11_answer 163 = .ok (.aload_n 0, 1) := by decide +kernel
theorem dX11_answer_164 : decode cX11_answer 164 = .ok (.getfield 61, 3) := by decide +kernel
theorem dX11_answer_167 : decode cX11_answer 167 = .ok (.sipush 200, 3) := by decide +kernel
theorem dX11_answer_170 : decode cX11_answer 170 = .ok (.aload_n 0, 1) := by decide +kernel
theorem dX11_answer_171 : decode cX11_answer 171 = .ok (.getfield 268, 3) := by decide +kernel
theorem dX11_answer_174 : decode cX11_answer 174 = .ok (.imul, 1) := by decide +kernel
theorem dX11_answer_175 : decode cX11_answer 175 = .ok (.iload_n 3, 1) := by decide +kernel
theorem dX11_answer_176 : decode cX11_answer 176 = .ok (.iadd, 1) := by decide +kernel
theorem dX11_answer_177 : decode cX11_answer 177 = .ok (.aload_n 0, 1) := by decide +kernel
theorem dX11_answer_178 : decode cX11_answer 178 = .ok (.getfield 76, 3) := by decide +kernel
theorem dX11_answer_181 : decode cX11_answer 181 = .ok (.sipush 200, 3) := by decide +kernel
theorem dX11_answer_184 : decode cX11_answer 184 = .ok (.iload_n 1, 1) := by decide +kernel
theorem dX11_answer_185 : decode cX11_answer 185 = .ok (.imul, 1) := by decide +kernel
theorem dX11_answer_186 : decode cX11_answer 186 = .ok (.iload_n 3, 1) := by decide +kernel
theorem dX11_answer_187 : decode cX11_answer 187 = .ok (.iadd, 1) := by decide +kernel
theorem dX11_answer_188 : decode cX11_answer 188 = .ok (.baload, 1) := by decide +kernel
theorem dX11_answer_189 : decode cX11_answer 189 = .ok (.bastore, 1) := by decide +kernel
theorem dX11_answer_190 : decode cX11_answer 190 = .ok (.iinc 3 1, 3) := by decide +kernel
theorem dX11_answer_193 : decode cX11_answer 193 = .ok (.goto (-37), 3) := by decide +kernel
theorem dX11_answer_196 : decode cX11_answer 196 = .ok (.aload_n 0, 1) := by decide +kernel
theorem dX11_answer_197 : decode cX11_answer 197 = .ok (.dup, 1) := by decide +kernel
theorem dX11_answer_198 : decode cX11_answer 198 = .ok (.getfield 268, 3) := by decide +kernel
theorem dX11_answer_201 : decode cX11_answer 201 = .ok (.iconst 1, 1) := by decide +kernel
theorem dX11_answer_202 : decode cX11_answer 202 = .ok (.iadd, 1) := by decide +kernel
theorem dX11_answer_203 : decode cX11_answer 203 = .ok (.putfield 268, 3) := by decide +kernel
theorem dX11_answer_206 : decode cX11_answer 206 = .ok (.return_, 1) := by decide +kernel
set_option maxRecDepth 20000 in
theorem ggX11_answers_X11_answer : GoodIn wsX11_answers wsX11_answer := goodIn_r _ [9, 3, 10, 11, 12, 13, 14, 4, 15, 16, 17, 18, 19, 20, 21, 22, 23, 24, 25, 26, 8, 27, 28, 29, 30, 31, 32, 33, 34, 35, 36, 37, 38, 39, 40, 41, 42, 43, 44, 45, 46, 47, 48, 49, 50, 51, 52, 53, 54, 55, 56, 57, 58, 59, 60, 61, 62, 63, 64, 65, 66, 67, 68, 69, 70, 71, 72, 73, 74, 75, 76, 77, 78, 79, 80, 81, 82, 83, 84, 85, 86, 87, 88, 89, 90, 91, 92, 93, 94, 95, 96, 97, 98, 99, 100, 101, 102, 103, 104, 105, 106, 107, 108, 109, 110, 111, 112, 113, 114, 115, 116, 117, 118, 119, 120, 121, 122, 123, 124, 125, 126, 127, 128, 129, 130, 131, 132, 133, 134, 135, 136, 137, 138, 139, 140, 141, 142, 143, 144, 145, 146, 147, 148, 149, 150, 151, 152, 153, 154, 155, 156, 157, 158, 159, 160, 161, 162, 163, 164, 165, 166, 167, 168, 169, 170, 171, 172, 173, 174, 175, 176, 177, 178, 179, 180, 181, 182, 183, 184, 185, 186, 187, 188, 189, 190, 191] (by decide +kernel) (by decide +kernel)
set_option maxRecDepth 20000 in
theorem gX11_answers_X11_answer : GoodIn wsX11_answers (wsV RX11 264 RX11 yX11_answer wsX11_answer) := goodIn_app (goodIn_of _ (by decide +kernel)) ggX11_answers_X11_answer
theorem dX11_answers_0 : decode cX11_answers 0 = .ok (.iconst 0, 1) := by decide +kernel
theorem dX11_answers_1 : decode cX11_answers 1 = .ok (.istore_n 1, 1) := by decide +kernel
theorem dX11_answers_2 : decode cX11_answers 2 = .ok (.iload_n 1, 1) := by decide +kernel
theorem dX11_answers_3 : decode cX11_answers 3 = .ok (.aload_n 0, 1) := by decide +kernel
theorem dX11_answers_4 : decode cX11_answers 4 = .ok (.getfield 191, 3) := by decide +kernel
theorem dX11_answers_7 : decode cX11_answers 7 = .ok (.if_icmp .ge 34, 3) := by decide +kernel
theorem dX11_answers_10 : decode cX11_answers 10 = .ok (.aload_n 0, 1) := by decide +kernel
theorem dX11_answers_11 : decode cX11_answers 11 = .ok (.getfield 91, 3) := by decide +kernel
theorem dX11_answers_14 : decode cX11_answers 14 = .ok (.iload_n 1, 1) := by decide +kernel
theorem dX11_answers_15 : decode cX11_answers 15 = .ok (.baload, 1) := by decide +kernel
theorem dX11_answers_16 : decode cX11_answers 16 = .ok (.ifCond .ne 6, 3) := by decide +kernel
theorem dX11_answers_19 : decode cX11_answers 19 = .ok (.goto 16, 3) := by decide +kernel
theorem dX11_answers_22 : decode cX11_answers 22 = .ok (.aload_n 0, 1) := by decide +kernel
theorem dX11_answers_23 : decode cX11_answers 23 = .ok (.getfield 91, 3) := by decide +kernel
theorem dX11_answers_26 : decode cX11_answers 26 = .ok (.iload_n 1, 1) := by decide +kernel
theorem dX11_answers_27 : decode cX11_answers 27 = .ok (.iconst 0, 1) := by decide +kernel
theorem dX11_answers_28 : decode cX11_answers 28 = .ok (.bastore, 1) := by decide +kernel
theorem dX11_answers_29 : decode cX11_answers 29 = .ok (.aload_n 0, 1) := by decide +kernel
theorem dX11_answers_30 : decode cX11_answers 30 = .ok (.iload_n 1, 1) := by decide +kernel
theorem dX11_answers_31 : decode cX11_answers 31 = .ok (.iconst 0, 1) := by decide +kernel
theorem dX11_answers_32 : decode cX11_answers 32 = .ok (.invokevirtual 264, 3) := by decide +kernel
theorem dX11_answers_35 : decode cX11_answers 35 = .ok (.iinc 1 1, 3) := by decide +kernel
theorem dX11_answers_38 : decode cX11_answers 38 = .ok (.goto (-36), 3) := by decide +kernel
theorem dX11_answers_41 : decode cX11_answers 41 = .ok (.iconst 0, 1) := by decide +kernel
theorem dX11_answers_42 : decode cX11_answers 42 = .ok (.istore_n 1, 1) := by decide +kernel
theorem dX11_answers_43 : decode cX11_answers 43 = .ok (.iload_n 1, 1) := by decide +kernel
theorem dX11_answers_44 : decode cX11_answers 44 = .ok (.aload_n 0, 1) := by decide +kernel
theorem dX11_answers_45 : decode cX11_answers 45 = .ok (.getfield 191, 3) := by decide +kernel
theorem dX11_answers_48 : decode cX11_answers 48 = .ok (.if_icmp .ge 28, 3) := by decide +kernel
theorem dX11_answers_51 : decode cX11_answers 51 = .ok (.aload_n 0, 1) := by decide +kernel
theorem dX11_answers_52 : decode cX11_answers 52 = .ok (.getfield 88, 3) := by decide +kernel
theorem dX11_answers_55 : decode cX11_answers 55 = .ok (.iload_n 1, 1) := by decide +kernel
theorem dX11_answers_56 : decode cX11_answers 56 = .ok (.iaload, 1) := by decide +kernel
theorem dX11_answers_57 : decode cX11_answers 57 = .ok (.aload_n 0, 1) := by decide +kernel
theorem dX11_answers_58 : decode cX11_answers 58 = .ok (.getfield 207, 3) := by decide +kernel
theorem dX11_answers_61 : decode cX11_answers 61 = .ok (.if_icmp .ne 9, 3) := by decide +kernel
theorem dX11_answers_64 : decode cX11_answers 64 = .ok (.aload_n 0, 1) := by decide +kernel
theorem dX11_answers_65 : decode cX11_answers 65 = .ok (.iload_n 1, 1) := by decide +kernel
theorem dX11_answers_66 : decode cX11_answers 66 = .ok (.iconst 1, 1) := by decide +kernel
theorem dX11_answers_67 : decode cX11_answers 67 = .ok (.invokevirtual 264, 3) := by decide +kernel
theorem dX11_answers_70 : decode cX11_answers 70 = .ok (.iinc 1 1, 3) := by decide +kernel
theorem dX11_answers_73 : decode cX11_answers 73 = .ok (.goto (-30), 3) := by decide +kernel
theorem dX11_answers_76 : decode cX11_answers 76 = .ok (.return_, 1) := by decide +kernel
set_option maxRecDepth 20000 in
theorem ggX11_acksDown_X11_heard : GoodIn wsX11_acksDown wsX11_heard := goodIn_r _ [14, 5, 15, 6, 16, 17, 7, 18, 8, 19, 3, 20, 21, 22, 23, 13, 24, 25, 26, 27, 28, 29, 30, 31, 32, 33, 34, 35, 36, 37, 38, 39, 40, 41, 42, 43, 44, 45, 46, 47, 48, 49, 50, 51, 52, 53, 54, 55, 56, 57, 58, 59, 60, 61, 62, 63, 64, 65, 66, 67, 68, 69, 70, 71, 72, 73, 74, 75, 76, 77, 78, 79, 80, 81, 82, 83, 84, 85, 86, 87, 88, 89, 90, 91, 92, 93, 94, 95, 96, 97, 98, 99, 100, 101, 102, 103, 104, 105, 106, 107, 108, 109, 110, 111, 112, 113, 114, 115, 116, 117, 118, 119, 120, 121, 122, 123, 124, 125, 126, 127, 128, 129, 130, 131, 132, 133, 134, 135, 136, 137, 138, 139, 140, 141, 142, 143, 144, 145, 146, 147, 148, 149, 150, 151, 152, 153, 154, 155, 156, 157, 158, 159, 160, 161, 162, 163, 164, 165, 166, 167, 168, 169, 170, 171, 172, 173, 174] (by decide +kernel) (by decide +kernel)
set_option maxRecDepth 20000 in
theorem gX11_acksDown_X11_heard : GoodIn wsX11_acksDown (wsV RX11 280 RX11 yX11_heard wsX11_heard) := goodIn_app (goodIn_of _ (by decide +kernel)) ggX11_acksDown_X11_heard
theorem dX11_acksDown_0 : decode cX11_acksDown 0 = .ok (.iload_n 2, 1) := by decide +kernel
theorem dX11_acksDown_1 : decode cX11_acksDown 1 = .ok (.ifCond .eq 7, 3) := by decide +kernel
theorem dX11_acksDown_4 : decode cX11_acksDown 4 = .ok (.iload_n 1, 1) := by decide +kernel
theorem dX11_acksDown_5 : decode cX11_acksDown 5 = .ok (.goto 4, 3) := by decide +kernel
theorem dX11_acksDown_8 : decode cX11_acksDown 8 = .ok (.iconst 0, 1) := by decide +kernel
theorem dX11_acksDown_9 : decode cX11_acksDown 9 = .ok (.istore_n 3, 1) := by decide +kernel
theorem dX11_acksDown_10 : decode cX11_acksDown 10 = .ok (.iload_n 1, 1) := by decide +kernel
theorem dX11_acksDown_11 : decode cX11_acksDown 11 = .ok (.istore 4, 2) := by decide +kernel
theorem dX11_acksDown_13 : decode cX11_acksDown 13 = .ok (.iload 4, 2) := by decide +kernel
theorem dX11_acksDown_15 : decode cX11_acksDown 15 = .ok (.aload_n 0, 1) := by decide +kernel
theorem dX11_acksDown_16 : decode cX11_acksDown 16 = .ok (.getfield 268, 3) := by decide +kernel
theorem dX11_acksDown_19 : decode cX11_acksDown 19 = .ok (.if_icmp .ge 161, 3) := by decide +kernel
theorem dX11_acksDown_22 : decode cX11_acksDown 22 = .ok (.iload_n 2, 1) := by decide +kernel
theorem dX11_acksDown_23 : decode cX11_acksDown 23 = .ok (.ifCond .eq 33, 3) := by decide +kernel
theorem dX11_acksDown_26 : decode cX11_acksDown 26 = .ok (.aload_n 0, 1) := by decide +kernel
theorem dX11_acksDown_27 : decode cX11_acksDown 27 = .ok (.getfield 45, 3) := by decide +kernel
theorem dX11_acksDown_30 : decode cX11_acksDown 30 = .ok (.iload 4, 2) := by decide +kernel
theorem dX11_acksDown_32 : decode cX11_acksDown 32 = .ok (.iaload, 1) := by decide +kernel
theorem dX11_acksDown_33 : decode cX11_acksDown 33 = .ok (.aload_n 0, 1) := by decide +kernel
theorem dX11_acksDown_34 : decode cX11_acksDown 34 = .ok (.getfield 207, 3) := by decide +kernel
theorem dX11_acksDown_37 : decode cX11_acksDown 37 = .ok (.if_icmp .ne 19, 3) := by decide +kernel
theorem dX11_acksDown_40 : decode cX11_acksDown 40 = .ok (.aload_n 0, 1) := by decide +kernel
theorem dX11_acksDown_41 : decode cX11_acksDown 41 = .ok (.aload_n 0, 1) := by decide +kernel
theorem dX11_acksDown_42 : decode cX11_acksDown 42 = .ok (.getfield 48, 3) := by decide +kernel
theorem dX11_acksDown_45 : decode cX11_acksDown 45 = .ok (.iload 4, 2) := by decide +kernel
theorem dX11_acksDown_47 : decode cX11_acksDown 47 = .ok (.iaload, 1) := by decide +kernel
theorem dX11_acksDown_48 : decode cX11_acksDown 48 = .ok (.iload 4, 2) := by decide +kernel
theorem dX11_acksDown_50 : decode cX11_acksDown 50 = .ok (.invokevirtual 280, 3) := by decide +kernel
theorem dX11_acksDown_53 : decode cX11_acksDown 53 = .ok (.goto 121, 3) := by decide +kernel
theorem dX11_acksDown_56 : decode cX11_acksDown 56 = .ok (.iload_n 3, 1) := by decide +kernel
theorem dX11_acksDown_57 : decode cX11_acksDown 57 = .ok (.iload 4, 2) := by decide +kernel
theorem dX11_acksDown_59 : decode cX11_acksDown 59 = .ok (.if_icmp .ge 112, 3) := by decide +kernel
theorem dX11_acksDown_62 : decode cX11_acksDown 62 = .ok (.aload_n 0, 1) := by decide +kernel
theorem dX11_acksDown_63 : decode cX11_acksDown 63 = .ok (.getfield 45, 3) := by decide +kernel
theorem dX11_acksDown_66 : decode cX11_acksDown 66 = .ok (.iload_n 3, 1) := by decide +kernel
theorem dX11_acksDown_67 : decode cX11_acksDown 67 = .ok (.aload_n 0, 1) := by decide +kernel
theorem dX11_acksDown_68 : decode cX11_acksDown 68 = .ok (.getfield 45, 3) := by decide +kernel
theorem dX11_acksDown_71 : decode cX11_acksDown 71 = .ok (.iload 4, 2) := by decide +kernel
theorem dX11_acksDown_73 : decode cX11_acksDown 73 = .ok (.iaload, 1) := by decide +kernel
theorem dX11_acksDown_74 : decode cX11_acksDown 74 = .ok (.iastore, 1) := by decide +kernel
theorem dX11_acksDown_75 : decode cX11_acksDown 75 = .ok (.aload_n 0, 1) := by decide +kernel
theorem dX11_acksDown_76 : decode cX11_acksDown 76 = .ok (.getfield 48, 3) := by decide +kernel
theorem dX11_acksDown_79 : decode cX11_acksDown 79 = .ok (.iload_n 3, 1) := by decide +kernel
theorem dX11_acksDown_80 : decode cX11_acksDown 80 = .ok (.aload_n 0, 1) := by decide +kernel
theorem dX11_acksDown_81 : decode cX11_acksDown 81 = .ok (.getfield 48, 3) := by decide +kernel
theorem dX11_acksDown_84 : decode cX11_acksDown 84 = .ok (.iload 4, 2) := by decide +kernel
theorem dX11_acksDown_86 : decode cX11_acksDown 86 = .ok (.iaload, 1) := by decide +kernel
theorem dX11_acksDown_87 : decode cX11_acksDown 87 = .ok (.iastore, 1) := by decide +kernel
theorem dX11_acksDown_88 : decode cX11_acksDown 88 = .ok (.aload_n 0, 1) := by decide +kernel
theorem dX11_acksDown_89 : decode cX11_acksDown 89 = .ok (.getfield 51, 3) := by decide +kernel
theorem dX11_acksDown_92 : decode cX11_acksDown 92 = .ok (.iload_n 3, 1) := by decide +kernel
theorem dX11_acksDown_93 : decode cX11_acksDown 93 = .ok (.aload_n 0, 1) := by decide +kernel
theorem dX11_acksDown_94 : decode cX11_acksDown 94 = .ok (.getfield 51, 3) := by decide +kernel
theorem dX11_acksDown_97 : decode cX11_acksDown 97 = .ok (.iload 4, 2) := by decide +kernel
theorem dX11_acksDown_99 : decode cX11_acksDown 99 = .ok (.iaload, 1) := by decide +kernel
theorem dX11_acksDown_100 : decode cX11_acksDown 100 = .ok (.iastore, 1) := by decide +kernel
theorem dX11_acksDown_101 : decode cX11_acksDown 101 = .ok (.aload_n 0, 1) := by decide +kernel
theorem dX11_acksDown_102 : decode cX11_acksDown 102 = .ok (.getfield 54, 3) := by decide +kernel
theorem dX11_acksDown_105 : decode cX11_acksDown 105 = .ok (.iload_n 3, 1) := by decide +kernel
theorem dX11_acksDown_106 : decode cX11_acksDown 106 = .ok (.aload_n 0, 1) := by decide +kernel
theorem dX11_acksDown_107 : decode cX11_acksDown 107 = .ok (.getfield 54, 3) := by decide +kernel
theorem dX11_acksDown_110 : decode cX11_acksDown 110 = .ok (.iload 4, 2) := by decide +kernel
theorem dX11_acksDown_112 : decode cX11_acksDown 112 = .ok (.iaload, 1) := by decide +kernel
theorem dX11_acksDown_113 : decode cX11_acksDown 113 = .ok (.iastore, 1) := by decide +kernel
theorem dX11_acksDown_114 : decode cX11_acksDown 114 = .ok (.aload_n 0, 1) := by decide +kernel
theorem dX11_acksDown_115 : decode cX11_acksDown 115 = .ok (.getfield 57, 3) := by decide +kernel
theorem dX11_acksDown_118 : decode cX11_acksDown 118 = .ok (.iload_n 3, 1) := by decide +kernel
theorem dX11_acksDown_119 : decode cX11_acksDown 119 = .ok (.aload_n 0, 1) := by decide +kernel
theorem dX11_acksDown_120 : decode cX11_acksDown 120 = .ok (.getfield 57, 3) := by decide +kernel
theorem dX11_acksDown_123 : decode cX11_acksDown 123 = .ok (.iload 4, 2) := by decide +kernel
theorem dX11_acksDown_125 : decode cX11_acksDown 125 = .ok (.baload, 1) := by decide +kernel
theorem dX11_acksDown_126 : decode cX11_acksDown 126 = .ok (.bastore, 1) := by decide +kernel
theorem dX11_acksDown_127 : decode cX11_acksDown 127 = .ok (.iconst 0, 1) := by decide +kernel
theorem dX11_acksDown_128 : decode cX11_acksDown 128 = .ok (.istore 5, 2) := by decide +kernel
theorem dX11_acksDown_130 : decode cX11_acksDown 130 = .ok (.iload 5, 2) := by decide +kernel
theorem dX11_acksDown_132 : decode cX11_acksDown 132 = .ok (.sipush 200, 3) := by decide +kernel
theorem dX11_acksDown_135 : decode cX11_acksDown 135 = .ok (.if_icmp .ge 36, 3) := by decide +kernel
theorem dX11_acksDown_138 : decode cX11_acksDown 138 = .ok (.aload_n 0, 1) := by decide +kernel
theorem dX11_acksDown_139 : decode cX11_acksDown 139 = .ok (.getfield 61, 3) := by decide +kernel
theorem dX11_acksDown_142 : decode cX11_acksDown 142 = .ok (.sipush 200, 3) := by decide +kernel
theorem dX11_acksDown_145 : decode cX11_acksDown 145 = .ok (.iload_n 3, 1) := by decide +kernel
theorem dX11_acksDown_146 : decode cX11_acksDown 146 = .ok (.imul, 1) := by decide +kernel
theorem dX11_acksDown_147 : decode cX11_acksDown 147 = .ok (.iload 5, 2) := by decide +kernel
theorem dX11_acksDown_149 : decode cX11_acksDown 149 = .ok (.iadd, 1) := by decide +kernel
theorem dX11_acksDown_150 : decode cX11_acksDown 150 = .ok (.aload_n 0, 1) := by decide +kernel
theorem dX11_acksDown_151 : decode cX11_acksDown 151 = .ok (.getfield 61, 3) := by decide +kernel
theorem dX11_acksDown_154 : decode cX11_acksDown 154 = .ok (.sipush 200, 3) := by decide +kernel
theorem dX11_acksDown_157 : decode cX11_acksDown 157 = .ok (.iload 4, 2) := by decide +kernel
theorem dX11_acksDown_159 : decode cX11_acksDown 159 = .ok (.imul, 1) := by decide +kernel
theorem dX11_acksDown_160 : decode cX11_acksDown 160 = .ok (.iload 5, 2) := by decide +kernel
theorem dX11_acksDown_162 : decode cX11_acksDown 162 = .ok (.iadd, 1) := by decide +kernel
theorem dX11_acksDown_163 : decode cX11_acksDown 163 = .ok (.baload, 1) := by decide +kernel
theorem dX11_acksDown_164 : decode cX11_acksDown 164 = .ok (.bastore, 1) := by decide +kernel
theorem dX11_acksDown_165 : decode cX11_acksDown 165 = .ok (.iinc 5 1, 3) := by decide +kernel
theorem dX11_acksDown_168 : decode cX11_acksDown 168 = .ok (.goto (-38), 3) := by decide +kernel
theorem dX11_acksDown_171 : decode cX11_acksDown 171 = .ok (.iinc 3 1, 3) := by decide +kernel
theorem dX11_acksDown_174 : decode cX11_acksDown 174 = .ok (.iinc 4 1, 3) := by decide +kernel
theorem dX11_acksDown_177 : decode cX11_acksDown 177 = .ok (.goto (-164), 3) := by decide +kernel
theorem dX11_acksDown_180 : decode cX11_acksDown 180 = .ok (.iload_n 2, 1) := by decide +kernel
theorem dX11_acksDown_181 : decode cX11_acksDown 181 = .ok (.ifCond .ne 8, 3) := by decide +kernel
theorem dX11_acksDown_184 : decode cX11_acksDown 184 = .ok (.aload_n 0, 1) := by decide +kernel
theorem dX11_acksDown_185 : decode cX11_acksDown 185 = .ok (.iconst 0, 1) := by decide +kernel
theorem dX11_acksDown_186 : decode cX11_acksDown 186 = .ok (.putfield 271, 3) := by decide +kernel
theorem dX11_acksDown_189 : decode cX11_acksDown 189 = .ok (.aload_n 0, 1) := by decide +kernel
theorem dX11_acksDown_190 : decode cX11_acksDown 190 = .ok (.iload_n 3, 1) := by decide +kernel
theorem dX11_acksDown_191 : decode cX11_acksDown 191 = .ok (.putfield 268, 3) := by decide +kernel
theorem dX11_acksDown_194 : decode cX11_acksDown 194 = .ok (.return_, 1) := by decide +kernel
set_option maxRecDepth 20000 in
theorem ggX11_hears_X11_acksDown : GoodIn wsX11_hears wsX11_acksDown := goodIn_r _ [11, 3, 4, 5, 6, 12, 13, 14, 15, 2, 16, 17, 18, 10, 19, 20, 21, 22, 23, 24, 25, 26, 27, 28, 29, 30, 31, 32, 33, 34, 35, 36, 37, 38, 39, 40, 41, 42, 43, 44, 45, 46, 47, 48, 49, 50, 51, 52, 53, 54, 55, 56, 57, 58, 59, 60, 61, 62, 63, 64, 65, 66, 67, 68, 69, 70, 71, 72, 73, 74, 75, 76, 77, 78, 79, 80, 81, 82, 83, 84, 85, 86, 87, 88, 89, 90, 91, 92, 93, 94, 95, 96, 97, 98, 99, 100, 101, 102, 103, 104, 105, 106, 107, 108, 109, 110, 111, 112, 113, 114, 115, 116, 117, 118, 119, 120, 121, 122, 123, 124, 125, 126, 127, 128, 129, 130, 131, 132, 133, 134, 135, 136, 137, 138, 139, 140, 141, 142, 143, 144, 145, 146, 147, 148, 149, 150, 151, 152, 153, 154, 155, 156, 157, 158, 159, 160, 161, 162, 163, 164, 165, 166, 167, 168, 169, 170, 171, 172, 173, 174, 175, 176, 177, 178, 179] (by decide +kernel) (by decide +kernel)
set_option maxRecDepth 20000 in
theorem gX11_hears_X11_acksDown : GoodIn wsX11_hears (wsV RX11 274 RX11 yX11_acksDown wsX11_acksDown) := goodIn_app (goodIn_of _ (by decide +kernel)) ggX11_hears_X11_acksDown
set_option maxRecDepth 20000 in
theorem ggX11_hears_X11_heard : GoodIn wsX11_hears wsX11_heard := goodIn_r _ [19, 12, 20, 13, 21, 22, 14, 23, 15, 24, 5, 25, 26, 27, 28, 10, 29, 30, 31, 32, 33, 34, 35, 36, 37, 38, 39, 40, 41, 42, 43, 44, 45, 46, 47, 48, 49, 50, 51, 52, 53, 54, 55, 56, 57, 58, 59, 60, 61, 62, 63, 64, 65, 66, 67, 68, 69, 70, 71, 72, 73, 74, 75, 76, 77, 78, 79, 80, 81, 82, 83, 84, 85, 86, 87, 88, 89, 90, 91, 92, 93, 94, 95, 96, 97, 98, 99, 100, 101, 102, 103, 104, 105, 106, 107, 108, 109, 110, 111, 112, 113, 114, 115, 116, 117, 118, 119, 120, 121, 122, 123, 124, 125, 126, 127, 128, 129, 130, 131, 132, 133, 134, 135, 136, 137, 138, 139, 140, 141, 142, 143, 144, 145, 146, 147, 148, 149, 150, 151, 152, 153, 154, 155, 156, 157, 158, 159, 160, 161, 162, 163, 164, 165, 166, 167, 168, 169, 170, 171, 172, 173, 174, 175, 176, 177, 178, 179] (by decide +kernel) (by decide +kernel)
set_option maxRecDepth 20000 in
theorem gX11_hears_X11_heard : GoodIn wsX11_hears (wsV RX11 280 RX11 yX11_heard wsX11_heard) := goodIn_app (goodIn_of _ (by decide +kernel)) ggX11_hears_X11_heard
theorem dX11_hears_0 : decode cX11_hears 0 = .ok (.aload_n 0, 1) := by decide +kernel
theorem dX11_hears_1 : decode cX11_hears 1 = .ok (.getfield 277, 3) := by decide +kernel
theorem dX11_hears_4 : decode cX11_hears 4 = .ok (.ifCond .eq 13, 3) := by decide +kernel
theorem dX11_hears_7 : decode cX11_hears 7 = .ok (.aload_n 0, 1) := by decide +kernel
theorem dX11_hears_8 : decode cX11_hears 8 = .ok (.aload_n 0, 1) := by decide +kernel
theorem dX11_hears_9 : decode cX11_hears 9 = .ok (.getfield 271, 3) := by decide +kernel
theorem dX11_hears_12 : decode cX11_hears 12 = .ok (.iconst 1, 1) := by decide +kernel
theorem dX11_hears_13 : decode cX11_hears 13 = .ok (.invokevirtual 274, 3) := by decide +kernel
theorem dX11_hears_16 : decode cX11_hears 16 = .ok (.return_, 1) := by decide +kernel
theorem dX11_hears_17 : decode cX11_hears 17 = .ok (.aload_n 0, 1) := by decide +kernel
theorem dX11_hears_18 : decode cX11_hears 18 = .ok (.getfield 271, 3) := by decide +kernel
theorem dX11_hears_21 : decode cX11_hears 21 = .ok (.aload_n 0, 1) := by decide +kernel
theorem dX11_hears_22 : decode cX11_hears 22 = .ok (.getfield 268, 3) := by decide +kernel
theorem dX11_hears_25 : decode cX11_hears 25 = .ok (.if_icmp .ge 53, 3) := by decide +kernel
theorem dX11_hears_28 : decode cX11_hears 28 = .ok (.aload_n 0, 1) := by decide +kernel
theorem dX11_hears_29 : decode cX11_hears 29 = .ok (.getfield 45, 3) := by decide +kernel
theorem dX11_hears_32 : decode cX11_hears 32 = .ok (.aload_n 0, 1) := by decide +kernel
theorem dX11_hears_33 : decode cX11_hears 33 = .ok (.getfield 271, 3) := by decide +kernel
theorem dX11_hears_36 : decode cX11_hears 36 = .ok (.iaload, 1) := by decide +kernel
theorem dX11_hears_37 : decode cX11_hears 37 = .ok (.aload_n 0, 1) := by decide +kernel
theorem dX11_hears_38 : decode cX11_hears 38 = .ok (.getfield 207, 3) := by decide +kernel
theorem dX11_hears_41 : decode cX11_hears 41 = .ok (.if_icmp .ne 37, 3) := by decide +kernel
theorem dX11_hears_44 : decode cX11_hears 44 = .ok (.aload_n 0, 1) := by decide +kernel
theorem dX11_hears_45 : decode cX11_hears 45 = .ok (.dup, 1) := by decide +kernel
theorem dX11_hears_46 : decode cX11_hears 46 = .ok (.getfield 271, 3) := by decide +kernel
theorem dX11_hears_49 : decode cX11_hears 49 = .ok (.iconst 1, 1) := by decide +kernel
theorem dX11_hears_50 : decode cX11_hears 50 = .ok (.iadd, 1) := by decide +kernel
theorem dX11_hears_51 : decode cX11_hears 51 = .ok (.putfield 271, 3) := by decide +kernel
theorem dX11_hears_54 : decode cX11_hears 54 = .ok (.aload_n 0, 1) := by decide +kernel
theorem dX11_hears_55 : decode cX11_hears 55 = .ok (.aload_n 0, 1) := by decide +kernel
theorem dX11_hears_56 : decode cX11_hears 56 = .ok (.getfield 48, 3) := by decide +kernel
theorem dX11_hears_59 : decode cX11_hears 59 = .ok (.aload_n 0, 1) := by decide +kernel
theorem dX11_hears_60 : decode cX11_hears 60 = .ok (.getfield 271, 3) := by decide +kernel
theorem dX11_hears_63 : decode cX11_hears 63 = .ok (.iconst 1, 1) := by decide +kernel
theorem dX11_hears_64 : decode cX11_hears 64 = .ok (.isub, 1) := by decide +kernel
theorem dX11_hears_65 : decode cX11_hears 65 = .ok (.iaload, 1) := by decide +kernel
theorem dX11_hears_66 : decode cX11_hears 66 = .ok (.aload_n 0, 1) := by decide +kernel
theorem dX11_hears_67 : decode cX11_hears 67 = .ok (.getfield 271, 3) := by decide +kernel
theorem dX11_hears_70 : decode cX11_hears 70 = .ok (.iconst 1, 1) := by decide +kernel
theorem dX11_hears_71 : decode cX11_hears 71 = .ok (.isub, 1) := by decide +kernel
theorem dX11_hears_72 : decode cX11_hears 72 = .ok (.invokevirtual 280, 3) := by decide +kernel
theorem dX11_hears_75 : decode cX11_hears 75 = .ok (.goto (-58), 3) := by decide +kernel
theorem dX11_hears_78 : decode cX11_hears 78 = .ok (.return_, 1) := by decide +kernel
set_option maxRecDepth 20000 in
theorem ggX11_heard_X11_measures : GoodIn wsX11_heard wsX11_measures := goodIn_r _ [16, 17, 10, 18, 19, 20, 21, 11, 22, 93, 94, 95, 96, 97, 98, 99, 100, 101, 102, 103, 104, 105, 106, 107, 108, 109, 110, 111, 112, 113, 114, 115, 116, 117, 118, 119, 120, 121, 122, 123, 124, 125, 126, 127, 128, 129, 130, 131, 132, 133, 134, 135, 136, 137, 138, 139, 140, 141, 142, 143, 144, 145, 146, 147, 148, 149, 150, 151, 152, 153, 154, 155, 156, 157, 158, 159, 160, 161, 162, 163, 164, 165, 166] (by decide +kernel) (by decide +kernel)
set_option maxRecDepth 20000 in
theorem gX11_heard_X11_measures : GoodIn wsX11_heard (wsV RX11 283 RX11 yX11_measures wsX11_measures) := goodIn_app (goodIn_of _ (by decide +kernel)) ggX11_heard_X11_measures
set_option maxRecDepth 20000 in
theorem ggX11_heard_X11_moreTold : GoodIn wsX11_heard wsX11_moreTold := goodIn_r _ [26, 27, 28, 29, 30, 31, 32, 2, 33, 34, 35, 15, 36, 37, 38, 39, 40, 41, 42, 43, 44, 10, 45, 46, 47, 48, 49, 50, 20, 51, 52, 53, 54, 55, 56, 57, 58, 59, 60, 61, 62, 63, 64, 65, 66, 17, 18, 9, 11, 67, 68, 69, 70, 71, 72, 73, 74, 75, 76, 77, 78, 79, 80, 81, 82, 93, 94, 95, 96, 97, 98, 99, 100, 101, 102, 103, 104, 105, 106, 107, 108, 109, 110, 111, 112, 113, 114, 115, 116, 117, 118, 119, 120, 121, 122, 123, 124, 125, 126, 127, 128, 129, 130, 131, 132, 133, 134, 135, 136, 137, 138, 139, 140, 141, 142, 143, 144, 145, 146, 147, 148, 149, 150, 151, 152, 153, 154, 155, 156, 157, 158, 159, 160, 161, 162, 163, 164, 165, 166] (by decide +kernel) (by decide +kernel)
set_option maxRecDepth 20000 in
theorem gX11_heard_X11_moreTold : GoodIn wsX11_heard (wsV RX11 286 RX11 yX11_moreTold wsX11_moreTold) := goodIn_app (goodIn_of _ (by decide +kernel)) ggX11_heard_X11_moreTold
set_option maxRecDepth 20000 in
theorem ggX11_heard_X11_duplicate : GoodIn wsX11_heard wsX11_duplicate := goodIn_r _ [86, 28, 27, 31, 29, 2, 32, 87, 65, 60, 88, 30, 33, 34, 35, 15, 36, 37, 38, 89, 90, 91, 92, 5, 45, 44, 56, 57, 58, 59, 61, 62, 63, 64, 66, 17, 18, 10, 9, 11, 67, 68, 69, 70, 71, 72, 73, 74, 75, 76, 77, 78, 79, 80, 81, 82, 93, 94, 95, 96, 97, 98, 99, 100, 101, 102, 103, 104, 105, 106, 107, 108, 109, 110, 111, 112, 113, 114, 115, 116, 117, 118, 119, 120, 121, 122, 123, 124, 125, 126, 127, 128, 129, 130, 131, 132, 133, 134, 135, 136, 137, 138, 139, 140, 141, 142, 143, 144, 145, 146, 147, 148, 149, 150, 151, 152, 153, 154, 155, 156, 157, 158, 159, 160, 161, 162, 163, 164, 165, 166] (by decide +kernel) (by decide +kernel)
set_option maxRecDepth 20000 in
theorem gX11_heard_X11_duplicate : GoodIn wsX11_heard (wsV RX11 290 RX11 yX11_duplicate wsX11_duplicate) := goodIn_app (goodIn_of _ (by decide +kernel)) ggX11_heard_X11_duplicate
theorem dX11_heard_0 : decode cX11_heard 0 = .ok (.aload_n 0, 1) := by decide +kernel
theorem dX11_heard_1 : decode cX11_heard 1 = .ok (.getfield 51, 3) := by decide +kernel
theorem dX11_heard_4 : decode cX11_heard 4 = .ok (.iload_n 2, 1) := by decide +kernel
theorem dX11_heard_5 : decode cX11_heard 5 = .ok (.iaload, 1) := by decide +kernel
theorem dX11_heard_6 : decode cX11_heard 6 = .ok (.istore_n 3, 1) := by decide +kernel
theorem dX11_heard_7 : decode cX11_heard 7 = .ok (.iload_n 3, 1) := by decide +kernel
theorem dX11_heard_8 : decode cX11_heard 8 = .ok (.aload_n 0, 1) := by decide +kernel
theorem dX11_heard_9 : decode cX11_heard 9 = .ok (.getfield 100, 3) := by decide +kernel
theorem dX11_heard_12 : decode cX11_heard 12 = .ok (.iload_n 1, 1) := by decide +kernel
theorem dX11_heard_13 : decode cX11_heard 13 = .ok (.iaload, 1) := by decide +kernel
theorem dX11_heard_14 : decode cX11_heard 14 = .ok (.if_icmp .ge 4, 3) := by decide +kernel
theorem dX11_heard_17 : decode cX11_heard 17 = .ok (.return_, 1) := by decide +kernel
theorem dX11_heard_18 : decode cX11_heard 18 = .ok (.iload_n 3, 1) := by decide +kernel
theorem dX11_heard_19 : decode cX11_heard 19 = .ok (.aload_n 0, 1) := by decide +kernel
theorem dX11_heard_20 : decode cX11_heard 20 = .ok (.getfield 100, 3) := by decide +kernel
theorem dX11_heard_23 : decode cX11_heard 23 = .ok (.iload_n 1, 1) := by decide +kernel
theorem dX11_heard_24 : decode cX11_heard 24 = .ok (.iaload, 1) := by decide +kernel
theorem dX11_heard_25 : decode cX11_heard 25 = .ok (.if_icmp .ne 46, 3) := by decide +kernel
theorem dX11_heard_28 : decode cX11_heard 28 = .ok (.aload_n 0, 1) := by decide +kernel
theorem dX11_heard_29 : decode cX11_heard 29 = .ok (.getfield 54, 3) := by decide +kernel
theorem dX11_heard_32 : decode cX11_heard 32 = .ok (.iload_n 2, 1) := by decide +kernel
theorem dX11_heard_33 : decode cX11_heard 33 = .ok (.iaload, 1) := by decide +kernel
theorem dX11_heard_34 : decode cX11_heard 34 = .ok (.aload_n 0, 1) := by decide +kernel
theorem dX11_heard_35 : decode cX11_heard 35 = .ok (.getfield 148, 3) := by decide +kernel
theorem dX11_heard_38 : decode cX11_heard 38 = .ok (.iload_n 1, 1) := by decide +kernel
theorem dX11_heard_39 : decode cX11_heard 39 = .ok (.iaload, 1) := by decide +kernel
theorem dX11_heard_40 : decode cX11_heard 40 = .ok (.if_icmp .ne 31, 3) := by decide +kernel
theorem dX11_heard_43 : decode cX11_heard 43 = .ok (.aload_n 0, 1) := by decide +kernel
theorem dX11_heard_44 : decode cX11_heard 44 = .ok (.getfield 103, 3) := by decide +kernel
theorem dX11_heard_47 : decode cX11_heard 47 = .ok (.iload_n 1, 1) := by decide +kernel
theorem dX11_heard_48 : decode cX11_heard 48 = .ok (.iaload, 1) := by decide +kernel
theorem dX11_heard_49 : decode cX11_heard 49 = .ok (.aload_n 0, 1) := by decide +kernel
theorem dX11_heard_50 : decode cX11_heard 50 = .ok (.getfield 100, 3) := by decide +kernel
theorem dX11_heard_53 : decode cX11_heard 53 = .ok (.iload_n 1, 1) := by decide +kernel
theorem dX11_heard_54 : decode cX11_heard 54 = .ok (.iaload, 1) := by decide +kernel
theorem dX11_heard_55 : decode cX11_heard 55 = .ok (.if_icmp .le 16, 3) := by decide +kernel
theorem dX11_heard_58 : decode cX11_heard 58 = .ok (.aload_n 0, 1) := by decide +kernel
theorem dX11_heard_59 : decode cX11_heard 59 = .ok (.getfield 57, 3) := by decide +kernel
theorem dX11_heard_62 : decode cX11_heard 62 = .ok (.iload_n 2, 1) := by decide +kernel
theorem dX11_heard_63 : decode cX11_heard 63 = .ok (.baload, 1) := by decide +kernel
theorem dX11_heard_64 : decode cX11_heard 64 = .ok (.ifCond .eq 7, 3) := by decide +kernel
theorem dX11_heard_67 : decode cX11_heard 67 = .ok (.iconst 1, 1) := by decide +kernel
theorem dX11_heard_68 : decode cX11_heard 68 = .ok (.goto 4, 3) := by decide +kernel
theorem dX11_heard_71 : decode cX11_heard 71 = .ok (.iconst 0, 1) := by decide +kernel
theorem dX11_heard_72 : decode cX11_heard 72 = .ok (.istore 4, 2) := by decide +kernel
theorem dX11_heard_74 : decode cX11_heard 74 = .ok (.iload_n 3, 1) := by decide +kernel
theorem dX11_heard_75 : decode cX11_heard 75 = .ok (.aload_n 0, 1) := by decide +kernel
theorem dX11_heard_76 : decode cX11_heard 76 = .ok (.getfield 100, 3) := by decide +kernel
theorem dX11_heard_79 : decode cX11_heard 79 = .ok (.iload_n 1, 1) := by decide +kernel
theorem dX11_heard_80 : decode cX11_heard 80 = .ok (.iaload, 1) := by decide +kernel
theorem dX11_heard_81 : decode cX11_heard 81 = .ok (.isub, 1) := by decide +kernel
theorem dX11_heard_82 : decode cX11_heard 82 = .ok (.istore 5, 2) := by decide +kernel
theorem dX11_heard_84 : decode cX11_heard 84 = .ok (.iload 5, 2) := by decide +kernel
theorem dX11_heard_86 : decode cX11_heard 86 = .ok (.ifCond .le 42, 3) := by decide +kernel
theorem dX11_heard_89 : decode cX11_heard 89 = .ok (.aload_n 0, 1) := by decide +kernel
theorem dX11_heard_90 : decode cX11_heard 90 = .ok (.iload_n 1, 1) := by decide +kernel
theorem dX11_heard_91 : decode cX11_heard 91 = .ok (.iload_n 3, 1) := by decide +kernel
theorem dX11_heard_92 : decode cX11_heard 92 = .ok (.invokevirtual 283, 3) := by decide +kernel
theorem dX11_heard_95 : decode cX11_heard 95 = .ok (.aload_n 0, 1) := by decide +kernel
theorem dX11_heard_96 : decode cX11_heard 96 = .ok (.getfield 100, 3) := by decide +kernel
theorem dX11_heard_99 : decode cX11_heard 99 = .ok (.iload_n 1, 1) := by decide +kernel
theorem dX11_heard_100 : decode cX11_heard 100 = .ok (.iload_n 3, 1) := by decide +kernel
theorem dX11_heard_101 : decode cX11_heard 101 = .ok (.iastore, 1) := by decide +kernel
theorem dX11_heard_102 : decode cX11_heard 102 = .ok (.aload_n 0, 1) := by decide +kernel
theorem dX11_heard_103 : decode cX11_heard 103 = .ok (.getfield 103, 3) := by decide +kernel
theorem dX11_heard_106 : decode cX11_heard 106 = .ok (.iload_n 1, 1) := by decide +kernel
theorem dX11_heard_107 : decode cX11_heard 107 = .ok (.iload_n 3, 1) := by decide +kernel
theorem dX11_heard_108 : decode cX11_heard 108 = .ok (.aload_n 0, 1) := by decide +kernel
theorem dX11_heard_109 : decode cX11_heard 109 = .ok (.getfield 103, 3) := by decide +kernel
theorem dX11_heard_112 : decode cX11_heard 112 = .ok (.iload_n 1, 1) := by decide +kernel
theorem dX11_heard_113 : decode cX11_heard 113 = .ok (.iaload, 1) := by decide +kernel
theorem dX11_heard_114 : decode cX11_heard 114 = .ok (.if_icmp .le 7, 3) := by decide +kernel
theorem dX11_heard_117 : decode cX11_heard 117 = .ok (.iload_n 3, 1) := by decide +kernel
theorem dX11_heard_118 : decode cX11_heard 118 = .ok (.goto 9, 3) := by decide +kernel
theorem dX11_heard_121 : decode cX11_heard 121 = .ok (.aload_n 0, 1) := by decide +kernel
theorem dX11_heard_122 : decode cX11_heard 122 = .ok (.getfield 103, 3) := by decide +kernel
theorem dX11_heard_125 : decode cX11_heard 125 = .ok (.iload_n 1, 1) := by decide +kernel
theorem dX11_heard_126 : decode cX11_heard 126 = .ok (.iaload, 1) := by decide +kernel
theorem dX11_heard_127 : decode cX11_heard 127 = .ok (.iastore, 1) := by decide +kernel
theorem dX11_heard_128 : decode cX11_heard 128 = .ok (.aload_n 0, 1) := by decide +kernel
theorem dX11_heard_129 : decode cX11_heard 129 = .ok (.getfield 148, 3) := by decide +kernel
theorem dX11_heard_132 : decode cX11_heard 132 = .ok (.iload_n 1, 1) := by decide +kernel
theorem dX11_heard_133 : decode cX11_heard 133 = .ok (.aload_n 0, 1) := by decide +kernel
theorem dX11_heard_134 : decode cX11_heard 134 = .ok (.getfield 54, 3) := by decide +kernel
theorem dX11_heard_137 : decode cX11_heard 137 = .ok (.iload_n 2, 1) := by decide +kernel
theorem dX11_heard_138 : decode cX11_heard 138 = .ok (.iaload, 1) := by decide +kernel
theorem dX11_heard_139 : decode cX11_heard 139 = .ok (.iastore, 1) := by decide +kernel
theorem dX11_heard_140 : decode cX11_heard 140 = .ok (.iconst 0, 1) := by decide +kernel
theorem dX11_heard_141 : decode cX11_heard 141 = .ok (.istore 6, 2) := by decide +kernel
theorem dX11_heard_143 : decode cX11_heard 143 = .ok (.iload 6, 2) := by decide +kernel
theorem dX11_heard_145 : decode cX11_heard 145 = .ok (.sipush 200, 3) := by decide +kernel
theorem dX11_heard_148 : decode cX11_heard 148 = .ok (.if_icmp .ge 35, 3) := by decide +kernel
theorem dX11_heard_151 : decode cX11_heard 151 = .ok (.aload_n 0, 1) := by decide +kernel
theorem dX11_heard_152 : decode cX11_heard 152 = .ok (.getfield 181, 3) := by decide +kernel
theorem dX11_heard_155 : decode cX11_heard 155 = .ok (.sipush 200, 3) := by decide +kernel
theorem dX11_heard_158 : decode cX11_heard 158 = .ok (.iload_n 1, 1) := by decide +kernel
theorem dX11_heard_159 : decode cX11_heard 159 = .ok (.imul, 1) := by decide +kernel
theorem dX11_heard_160 : decode cX11_heard 160 = .ok (.iload 6, 2) := by decide +kernel
theorem dX11_heard_162 : decode cX11_heard 162 = .ok (.iadd, 1) := by decide +kernel
theorem dX11_heard_163 : decode cX11_heard 163 = .ok (.aload_n 0, 1) := by decide +kernel
theorem dX11_heard_164 : decode cX11_heard 164 = .ok (.getfield 61, 3) := by decide +kernel
theorem dX11_heard_167 : decode cX11_heard 167 = .ok (.sipush 200, 3) := by decide +kernel
theorem dX11_heard_170 : decode cX11_heard 170 = .ok (.iload_n 2, 1) := by decide +kernel
theorem dX11_heard_171 : decode cX11_heard 171 = .ok (.imul, 1) := by decide +kernel
theorem dX11_heard_172 : decode cX11_heard 172 = .ok (.iload 6, 2) := by decide +kernel
theorem dX11_heard_174 : decode cX11_heard 174 = .ok (.iadd, 1) := by decide +kernel
theorem dX11_heard_175 : decode cX11_heard 175 = .ok (.baload, 1) := by decide +kernel
theorem dX11_heard_176 : decode cX11_heard 176 = .ok (.bastore, 1) := by decide +kernel
theorem dX11_heard_177 : decode cX11_heard 177 = .ok (.iinc 6 1, 3) := by decide +kernel
theorem dX11_heard_180 : decode cX11_heard 180 = .ok (.goto (-37), 3) := by decide +kernel
theorem dX11_heard_183 : decode cX11_heard 183 = .ok (.iload 5, 2) := by decide +kernel
theorem dX11_heard_185 : decode cX11_heard 185 = .ok (.ifCond .le 39, 3) := by decide +kernel
theorem dX11_heard_188 : decode cX11_heard 188 = .ok (.aload_n 0, 1) := by decide +kernel
theorem dX11_heard_189 : decode cX11_heard 189 = .ok (.getfield 151, 3) := by decide +kernel
theorem dX11_heard_192 : decode cX11_heard 192 = .ok (.iload_n 1, 1) := by decide +kernel
theorem dX11_heard_193 : decode cX11_heard 193 = .ok (.aload_n 0, 1) := by decide +kernel
theorem dX11_heard_194 : decode cX11_heard 194 = .ok (.getfield 103, 3) := by decide +kernel
theorem dX11_heard_197 : decode cX11_heard 197 = .ok (.iload_n 1, 1) := by decide +kernel
theorem dX11_heard_198 : decode cX11_heard 198 = .ok (.iaload, 1) := by decide +kernel
theorem dX11_heard_199 : decode cX11_heard 199 = .ok (.aload_n 0, 1) := by decide +kernel
theorem dX11_heard_200 : decode cX11_heard 200 = .ok (.getfield 100, 3) := by decide +kernel
theorem dX11_heard_203 : decode cX11_heard 203 = .ok (.iload_n 1, 1) := by decide +kernel
theorem dX11_heard_204 : decode cX11_heard 204 = .ok (.iaload, 1) := by decide +kernel
theorem dX11_heard_205 : decode cX11_heard 205 = .ok (.if_icmp .le 17, 3) := by decide +kernel
theorem dX11_heard_208 : decode cX11_heard 208 = .ok (.aload_n 0, 1) := by decide +kernel
theorem dX11_heard_209 : decode cX11_heard 209 = .ok (.getfield 207, 3) := by decide +kernel
theorem dX11_heard_212 : decode cX11_heard 212 = .ok (.aload_n 0, 1) := by decide +kernel
theorem dX11_heard_213 : decode cX11_heard 213 = .ok (.getfield 115, 3) := by decide +kernel
theorem dX11_heard_216 : decode cX11_heard 216 = .ok (.iload_n 1, 1) := by decide +kernel
theorem dX11_heard_217 : decode cX11_heard 217 = .ok (.iaload, 1) := by decide +kernel
theorem dX11_heard_218 : decode cX11_heard 218 = .ok (.iadd, 1) := by decide +kernel
theorem dX11_heard_219 : decode cX11_heard 219 = .ok (.goto 4, 3) := by decide +kernel
theorem dX11_heard_222 : decode cX11_heard 222 = .ok (.iconst (-1), 1) := by decide +kernel
theorem dX11_heard_223 : decode cX11_heard 223 = .ok (.iastore, 1) := by decide +kernel
theorem dX11_heard_224 : decode cX11_heard 224 = .ok (.aload_n 0, 1) := by decide +kernel
theorem dX11_heard_225 : decode cX11_heard 225 = .ok (.getfield 148, 3) := by decide +kernel
theorem dX11_heard_228 : decode cX11_heard 228 = .ok (.iload_n 1, 1) := by decide +kernel
theorem dX11_heard_229 : decode cX11_heard 229 = .ok (.iaload, 1) := by decide +kernel
theorem dX11_heard_230 : decode cX11_heard 230 = .ok (.ifCond .le 25, 3) := by decide +kernel
theorem dX11_heard_233 : decode cX11_heard 233 = .ok (.aload_n 0, 1) := by decide +kernel
theorem dX11_heard_234 : decode cX11_heard 234 = .ok (.getfield 103, 3) := by decide +kernel
theorem dX11_heard_237 : decode cX11_heard 237 = .ok (.iload_n 1, 1) := by decide +kernel
theorem dX11_heard_238 : decode cX11_heard 238 = .ok (.iaload, 1) := by decide +kernel
theorem dX11_heard_239 : decode cX11_heard 239 = .ok (.aload_n 0, 1) := by decide +kernel
theorem dX11_heard_240 : decode cX11_heard 240 = .ok (.getfield 100, 3) := by decide +kernel
theorem dX11_heard_243 : decode cX11_heard 243 = .ok (.iload_n 1, 1) := by decide +kernel
theorem dX11_heard_244 : decode cX11_heard 244 = .ok (.iaload, 1) := by decide +kernel
theorem dX11_heard_245 : decode cX11_heard 245 = .ok (.if_icmp .ne 10, 3) := by decide +kernel
theorem dX11_heard_248 : decode cX11_heard 248 = .ok (.aload_n 0, 1) := by decide +kernel
theorem dX11_heard_249 : decode cX11_heard 249 = .ok (.getfield 151, 3) := by decide +kernel
theorem dX11_heard_252 : decode cX11_heard 252 = .ok (.iload_n 1, 1) := by decide +kernel
theorem dX11_heard_253 : decode cX11_heard 253 = .ok (.iconst (-1), 1) := by decide +kernel
theorem dX11_heard_254 : decode cX11_heard 254 = .ok (.iastore, 1) := by decide +kernel
theorem dX11_heard_255 : decode cX11_heard 255 = .ok (.iload 5, 2) := by decide +kernel
theorem dX11_heard_257 : decode cX11_heard 257 = .ok (.ifCond .le 14, 3) := by decide +kernel
theorem dX11_heard_260 : decode cX11_heard 260 = .ok (.aload_n 0, 1) := by decide +kernel
theorem dX11_heard_261 : decode cX11_heard 261 = .ok (.iload_n 1, 1) := by decide +kernel
theorem dX11_heard_262 : decode cX11_heard 262 = .ok (.iload_n 3, 1) := by decide +kernel
theorem dX11_heard_263 : decode cX11_heard 263 = .ok (.iload 5, 2) := by decide +kernel
theorem dX11_heard_265 : decode cX11_heard 265 = .ok (.invokevirtual 286, 3) := by decide +kernel
theorem dX11_heard_268 : decode cX11_heard 268 = .ok (.goto 13, 3) := by decide +kernel
theorem dX11_heard_271 : decode cX11_heard 271 = .ok (.iload 4, 2) := by decide +kernel
theorem dX11_heard_273 : decode cX11_heard 273 = .ok (.ifCond .eq 8, 3) := by decide +kernel
theorem dX11_heard_276 : decode cX11_heard 276 = .ok (.aload_n 0, 1) := by decide +kernel
theorem dX11_heard_277 : decode cX11_heard 277 = .ok (.iload_n 1, 1) := by decide +kernel
theorem dX11_heard_278 : decode cX11_heard 278 = .ok (.invokevirtual 290, 3) := by decide +kernel
theorem dX11_heard_281 : decode cX11_heard 281 = .ok (.return_, 1) := by decide +kernel
theorem dX11_measures_0 : decode cX11_measures 0 = .ok (.aload_n 0, 1) := by decide +kernel
theorem dX11_measures_1 : decode cX11_measures 1 = .ok (.getfield 175, 3) := by decide +kernel
theorem dX11_measures_4 : decode cX11_measures 4 = .ok (.iload_n 1, 1) := by decide +kernel
theorem dX11_measures_5 : decode cX11_measures 5 = .ok (.iaload, 1) := by decide +kernel
theorem dX11_measures_6 : decode cX11_measures 6 = .ok (.iconst (-1), 1) := by decide +kernel
theorem dX11_measures_7 : decode cX11_measures 7 = .ok (.if_icmp .eq 13, 3) := by decide +kernel
theorem dX11_measures_10 : decode cX11_measures 10 = .ok (.iload_n 2, 1) := by decide +kernel
theorem dX11_measures_11 : decode cX11_measures 11 = .ok (.aload_n 0, 1) := by decide +kernel
theorem dX11_measures_12 : decode cX11_measures 12 = .ok (.getfield 175, 3) := by decide +kernel
theorem dX11_measures_15 : decode cX11_measures 15 = .ok (.iload_n 1, 1) := by decide +kernel
theorem dX11_measures_16 : decode cX11_measures 16 = .ok (.iaload, 1) := by decide +kernel
theorem dX11_measures_17 : decode cX11_measures 17 = .ok (.if_icmp .gt 4, 3) := by decide +kernel
theorem dX11_measures_20 : decode cX11_measures 20 = .ok (.return_, 1) := by decide +kernel
theorem dX11_measures_21 : decode cX11_measures 21 = .ok (.aload_n 0, 1) := by decide +kernel
theorem dX11_measures_22 : decode cX11_measures 22 = .ok (.getfield 207, 3) := by decide +kernel
theorem dX11_measures_25 : decode cX11_measures 25 = .ok (.aload_n 0, 1) := by decide +kernel
theorem dX11_measures_26 : decode cX11_measures 26 = .ok (.getfield 178, 3) := by decide +kernel
theorem dX11_measures_29 : decode cX11_measures 29 = .ok (.iload_n 1, 1) := by decide +kernel
theorem dX11_measures_30 : decode cX11_measures 30 = .ok (.iaload, 1) := by decide +kernel
theorem dX11_measures_31 : decode cX11_measures 31 = .ok (.isub, 1) := by decide +kernel
theorem dX11_measures_32 : decode cX11_measures 32 = .ok (.istore_n 3, 1) := by decide +kernel
theorem dX11_measures_33 : decode cX11_measures 33 = .ok (.aload_n 0, 1) := by decide +kernel
theorem dX11_measures_34 : decode cX11_measures 34 = .ok (.getfield 175, 3) := by decide +kernel
