theorem dX11_duplicate_160 : decode cX11_duplicate 160 = .ok (.iload_n 1, 1) := by decide +kernel
theorem dX11_duplicate_161 : decode cX11_duplicate 161 = .ok (.iaload, 1) := by decide +kernel
theorem dX11_duplicate_162 : decode cX11_duplicate 162 = .ok (.invokevirtual 301, 3) := by decide +kernel
theorem dX11_duplicate_165 : decode cX11_duplicate 165 = .ok (.aload_n 0, 1) := by decide +kernel
theorem dX11_duplicate_166 : decode cX11_duplicate 166 = .ok (.iload_n 1, 1) := by decide +kernel
theorem dX11_duplicate_167 : decode cX11_duplicate 167 = .ok (.aload_n 0, 1) := by decide +kernel
theorem dX11_duplicate_168 : decode cX11_duplicate 168 = .ok (.getfield 112, 3) := by decide +kernel
theorem dX11_duplicate_171 : decode cX11_duplicate 171 = .ok (.iload_n 1, 1) := by decide +kernel
theorem dX11_duplicate_172 : decode cX11_duplicate 172 = .ok (.iaload, 1) := by decide +kernel
theorem dX11_duplicate_173 : decode cX11_duplicate 173 = .ok (.aload_n 0, 1) := by decide +kernel
theorem dX11_duplicate_174 : decode cX11_duplicate 174 = .ok (.getfield 94, 3) := by decide +kernel
theorem dX11_duplicate_177 : decode cX11_duplicate 177 = .ok (.iload_n 1, 1) := by decide +kernel
theorem dX11_duplicate_178 : decode cX11_duplicate 178 = .ok (.iaload, 1) := by decide +kernel
theorem dX11_duplicate_179 : decode cX11_duplicate 179 = .ok (.iconst 3, 1) := by decide +kernel
theorem dX11_duplicate_180 : decode cX11_duplicate 180 = .ok (.if_icmp .ne 7, 3) := by decide +kernel
theorem dX11_duplicate_183 : decode cX11_duplicate 183 = .ok (.iconst 0, 1) := by decide +kernel
theorem dX11_duplicate_184 : decode cX11_duplicate 184 = .ok (.goto 6, 3) := by decide +kernel
theorem dX11_duplicate_187 : decode cX11_duplicate 187 = .ok (.sipush 3072, 3) := by decide +kernel
theorem dX11_duplicate_190 : decode cX11_duplicate 190 = .ok (.iadd, 1) := by decide +kernel
theorem dX11_duplicate_191 : decode cX11_duplicate 191 = .ok (.invokevirtual 295, 3) := by decide +kernel
theorem dX11_duplicate_194 : decode cX11_duplicate 194 = .ok (.return_, 1) := by decide +kernel
theorem dX11_loses_0 : decode cX11_loses 0 = .ok (.aload_n 0, 1) := by decide +kernel
theorem dX11_loses_1 : decode cX11_loses 1 = .ok (.getfield 94, 3) := by decide +kernel
theorem dX11_loses_4 : decode cX11_loses 4 = .ok (.iload_n 1, 1) := by decide +kernel
theorem dX11_loses_5 : decode cX11_loses 5 = .ok (.iaload, 1) := by decide +kernel
theorem dX11_loses_6 : decode cX11_loses 6 = .ok (.iconst 2, 1) := by decide +kernel
theorem dX11_loses_7 : decode cX11_loses 7 = .ok (.if_icmp .eq 42, 3) := by decide +kernel
theorem dX11_loses_10 : decode cX11_loses 10 = .ok (.aload_n 0, 1) := by decide +kernel
theorem dX11_loses_11 : decode cX11_loses 11 = .ok (.getfield 103, 3) := by decide +kernel
theorem dX11_loses_14 : decode cX11_loses 14 = .ok (.iload_n 1, 1) := by decide +kernel
theorem dX11_loses_15 : decode cX11_loses 15 = .ok (.iaload, 1) := by decide +kernel
theorem dX11_loses_16 : decode cX11_loses 16 = .ok (.aload_n 0, 1) := by decide +kernel
theorem dX11_loses_17 : decode cX11_loses 17 = .ok (.getfield 100, 3) := by decide +kernel
theorem dX11_loses_20 : decode cX11_loses 20 = .ok (.iload_n 1, 1) := by decide +kernel
theorem dX11_loses_21 : decode cX11_loses 21 = .ok (.iaload, 1) := by decide +kernel
theorem dX11_loses_22 : decode cX11_loses 22 = .ok (.isub, 1) := by decide +kernel
theorem dX11_loses_23 : decode cX11_loses 23 = .ok (.sipush 512, 3) := by decide +kernel
theorem dX11_loses_26 : decode cX11_loses 26 = .ok (.imul, 1) := by decide +kernel
theorem dX11_loses_27 : decode cX11_loses 27 = .ok (.istore_n 2, 1) := by decide +kernel
theorem dX11_loses_28 : decode cX11_loses 28 = .ok (.aload_n 0, 1) := by decide +kernel
theorem dX11_loses_29 : decode cX11_loses 29 = .ok (.getfield 112, 3) := by decide +kernel
theorem dX11_loses_32 : decode cX11_loses 32 = .ok (.iload_n 1, 1) := by decide +kernel
theorem dX11_loses_33 : decode cX11_loses 33 = .ok (.iload_n 2, 1) := by decide +kernel
theorem dX11_loses_34 : decode cX11_loses 34 = .ok (.sipush 2048, 3) := by decide +kernel
theorem dX11_loses_37 : decode cX11_loses 37 = .ok (.if_icmp .le 7, 3) := by decide +kernel
theorem dX11_loses_40 : decode cX11_loses 40 = .ok (.iload_n 2, 1) := by decide +kernel
theorem dX11_loses_41 : decode cX11_loses 41 = .ok (.goto 6, 3) := by decide +kernel
theorem dX11_loses_44 : decode cX11_loses 44 = .ok (.sipush 2048, 3) := by decide +kernel
theorem dX11_loses_47 : decode cX11_loses 47 = .ok (.iastore, 1) := by decide +kernel
theorem dX11_loses_48 : decode cX11_loses 48 = .ok (.return_, 1) := by decide +kernel
theorem dX11_loses_49 : decode cX11_loses 49 = .ok (.aload_n 0, 1) := by decide +kernel
theorem dX11_loses_50 : decode cX11_loses 50 = .ok (.getfield 157, 3) := by decide +kernel
theorem dX11_loses_53 : decode cX11_loses 53 = .ok (.iload_n 1, 1) := by decide +kernel
theorem dX11_loses_54 : decode cX11_loses 54 = .ok (.aload_n 0, 1) := by decide +kernel
theorem dX11_loses_55 : decode cX11_loses 55 = .ok (.getfield 109, 3) := by decide +kernel
theorem dX11_loses_58 : decode cX11_loses 58 = .ok (.iload_n 1, 1) := by decide +kernel
theorem dX11_loses_59 : decode cX11_loses 59 = .ok (.iaload, 1) := by decide +kernel
theorem dX11_loses_60 : decode cX11_loses 60 = .ok (.aload_n 0, 1) := by decide +kernel
theorem dX11_loses_61 : decode cX11_loses 61 = .ok (.getfield 157, 3) := by decide +kernel
theorem dX11_loses_64 : decode cX11_loses 64 = .ok (.iload_n 1, 1) := by decide +kernel
theorem dX11_loses_65 : decode cX11_loses 65 = .ok (.iaload, 1) := by decide +kernel
theorem dX11_loses_66 : decode cX11_loses 66 = .ok (.if_icmp .ge 18, 3) := by decide +kernel
theorem dX11_loses_69 : decode cX11_loses 69 = .ok (.aload_n 0, 1) := by decide +kernel
theorem dX11_loses_70 : decode cX11_loses 70 = .ok (.getfield 109, 3) := by decide +kernel
theorem dX11_loses_73 : decode cX11_loses 73 = .ok (.iload_n 1, 1) := by decide +kernel
theorem dX11_loses_74 : decode cX11_loses 74 = .ok (.iaload, 1) := by decide +kernel
theorem dX11_loses_75 : decode cX11_loses 75 = .ok (.bipush 85, 2) := by decide +kernel
theorem dX11_loses_77 : decode cX11_loses 77 = .ok (.imul, 1) := by decide +kernel
theorem dX11_loses_78 : decode cX11_loses 78 = .ok (.bipush 100, 2) := by decide +kernel
theorem dX11_loses_80 : decode cX11_loses 80 = .ok (.idiv, 1) := by decide +kernel
theorem dX11_loses_81 : decode cX11_loses 81 = .ok (.goto 9, 3) := by decide +kernel
theorem dX11_loses_84 : decode cX11_loses 84 = .ok (.aload_n 0, 1) := by decide +kernel
theorem dX11_loses_85 : decode cX11_loses 85 = .ok (.getfield 109, 3) := by decide +kernel
theorem dX11_loses_88 : decode cX11_loses 88 = .ok (.iload_n 1, 1) := by decide +kernel
theorem dX11_loses_89 : decode cX11_loses 89 = .ok (.iaload, 1) := by decide +kernel
theorem dX11_loses_90 : decode cX11_loses 90 = .ok (.iastore, 1) := by decide +kernel
theorem dX11_loses_91 : decode cX11_loses 91 = .ok (.aload_n 0, 1) := by decide +kernel
theorem dX11_loses_92 : decode cX11_loses 92 = .ok (.getfield 109, 3) := by decide +kernel
theorem dX11_loses_95 : decode cX11_loses 95 = .ok (.iload_n 1, 1) := by decide +kernel
theorem dX11_loses_96 : decode cX11_loses 96 = .ok (.iaload, 1) := by decide +kernel
theorem dX11_loses_97 : decode cX11_loses 97 = .ok (.bipush 7, 2) := by decide +kernel
theorem dX11_loses_99 : decode cX11_loses 99 = .ok (.imul, 1) := by decide +kernel
theorem dX11_loses_100 : decode cX11_loses 100 = .ok (.bipush 10, 2) := by decide +kernel
theorem dX11_loses_102 : decode cX11_loses 102 = .ok (.idiv, 1) := by decide +kernel
theorem dX11_loses_103 : decode cX11_loses 103 = .ok (.istore_n 2, 1) := by decide +kernel
theorem dX11_loses_104 : decode cX11_loses 104 = .ok (.aload_n 0, 1) := by decide +kernel
theorem dX11_loses_105 : decode cX11_loses 105 = .ok (.getfield 112, 3) := by decide +kernel
theorem dX11_loses_108 : decode cX11_loses 108 = .ok (.iload_n 1, 1) := by decide +kernel
theorem dX11_loses_109 : decode cX11_loses 109 = .ok (.iload_n 2, 1) := by decide +kernel
theorem dX11_loses_110 : decode cX11_loses 110 = .ok (.sipush 2048, 3) := by decide +kernel
theorem dX11_loses_113 : decode cX11_loses 113 = .ok (.if_icmp .le 7, 3) := by decide +kernel
theorem dX11_loses_116 : decode cX11_loses 116 = .ok (.iload_n 2, 1) := by decide +kernel
theorem dX11_loses_117 : decode cX11_loses 117 = .ok (.goto 6, 3) := by decide +kernel
theorem dX11_loses_120 : decode cX11_loses 120 = .ok (.sipush 2048, 3) := by decide +kernel
theorem dX11_loses_123 : decode cX11_loses 123 = .ok (.iastore, 1) := by decide +kernel
theorem dX11_loses_124 : decode cX11_loses 124 = .ok (.aload_n 0, 1) := by decide +kernel
theorem dX11_loses_125 : decode cX11_loses 125 = .ok (.getfield 169, 3) := by decide +kernel
theorem dX11_loses_128 : decode cX11_loses 128 = .ok (.iload_n 1, 1) := by decide +kernel
theorem dX11_loses_129 : decode cX11_loses 129 = .ok (.iconst (-1), 1) := by decide +kernel
theorem dX11_loses_130 : decode cX11_loses 130 = .ok (.iastore, 1) := by decide +kernel
theorem dX11_loses_131 : decode cX11_loses 131 = .ok (.return_, 1) := by decide +kernel
theorem dX11_grows_0 : decode cX11_grows 0 = .ok (.aload_n 0, 1) := by decide +kernel
theorem dX11_grows_1 : decode cX11_grows 1 = .ok (.getfield 94, 3) := by decide +kernel
theorem dX11_grows_4 : decode cX11_grows 4 = .ok (.iload_n 1, 1) := by decide +kernel
theorem dX11_grows_5 : decode cX11_grows 5 = .ok (.iaload, 1) := by decide +kernel
theorem dX11_grows_6 : decode cX11_grows 6 = .ok (.iconst 2, 1) := by decide +kernel
theorem dX11_grows_7 : decode cX11_grows 7 = .ok (.if_icmp .eq 36, 3) := by decide +kernel
theorem dX11_grows_10 : decode cX11_grows 10 = .ok (.ldc 194, 2) := by decide +kernel
theorem dX11_grows_12 : decode cX11_grows 12 = .ok (.aload_n 0, 1) := by decide +kernel
theorem dX11_grows_13 : decode cX11_grows 13 = .ok (.getfield 109, 3) := by decide +kernel
theorem dX11_grows_16 : decode cX11_grows 16 = .ok (.iload_n 1, 1) := by decide +kernel
theorem dX11_grows_17 : decode cX11_grows 17 = .ok (.iaload, 1) := by decide +kernel
theorem dX11_grows_18 : decode cX11_grows 18 = .ok (.idiv, 1) := by decide +kernel
theorem dX11_grows_19 : decode cX11_grows 19 = .ok (.istore_n 2, 1) := by decide +kernel
theorem dX11_grows_20 : decode cX11_grows 20 = .ok (.aload_n 0, 1) := by decide +kernel
theorem dX11_grows_21 : decode cX11_grows 21 = .ok (.iload_n 1, 1) := by decide +kernel
theorem dX11_grows_22 : decode cX11_grows 22 = .ok (.aload_n 0, 1) := by decide +kernel
theorem dX11_grows_23 : decode cX11_grows 23 = .ok (.getfield 109, 3) := by decide +kernel
theorem dX11_grows_26 : decode cX11_grows 26 = .ok (.iload_n 1, 1) := by decide +kernel
theorem dX11_grows_27 : decode cX11_grows 27 = .ok (.iaload, 1) := by decide +kernel
theorem dX11_grows_28 : decode cX11_grows 28 = .ok (.iload_n 2, 1) := by decide +kernel
theorem dX11_grows_29 : decode cX11_grows 29 = .ok (.iconst 1, 1) := by decide +kernel
theorem dX11_grows_30 : decode cX11_grows 30 = .ok (.if_icmp .le 7, 3) := by decide +kernel
theorem dX11_grows_33 : decode cX11_grows 33 = .ok (.iload_n 2, 1) := by decide +kernel
theorem dX11_grows_34 : decode cX11_grows 34 = .ok (.goto 4, 3) := by decide +kernel
theorem dX11_grows_37 : decode cX11_grows 37 = .ok (.iconst 1, 1) := by decide +kernel
theorem dX11_grows_38 : decode cX11_grows 38 = .ok (.iadd, 1) := by decide +kernel
theorem dX11_grows_39 : decode cX11_grows 39 = .ok (.invokevirtual 295, 3) := by decide +kernel
theorem dX11_grows_42 : decode cX11_grows 42 = .ok (.return_, 1) := by decide +kernel
theorem dX11_grows_43 : decode cX11_grows 43 = .ok (.aload_n 0, 1) := by decide +kernel
theorem dX11_grows_44 : decode cX11_grows 44 = .ok (.getfield 169, 3) := by decide +kernel
theorem dX11_grows_47 : decode cX11_grows 47 = .ok (.iload_n 1, 1) := by decide +kernel
theorem dX11_grows_48 : decode cX11_grows 48 = .ok (.iaload, 1) := by decide +kernel
theorem dX11_grows_49 : decode cX11_grows 49 = .ok (.iconst (-1), 1) := by decide +kernel
theorem dX11_grows_50 : decode cX11_grows 50 = .ok (.if_icmp .ne 142, 3) := by decide +kernel
theorem dX11_grows_53 : decode cX11_grows 53 = .ok (.aload_n 0, 1) := by decide +kernel
theorem dX11_grows_54 : decode cX11_grows 54 = .ok (.getfield 169, 3) := by decide +kernel
theorem dX11_grows_57 : decode cX11_grows 57 = .ok (.iload_n 1, 1) := by decide +kernel
theorem dX11_grows_58 : decode cX11_grows 58 = .ok (.aload_n 0, 1) := by decide +kernel
theorem dX11_grows_59 : decode cX11_grows 59 = .ok (.getfield 207, 3) := by decide +kernel
theorem dX11_grows_62 : decode cX11_grows 62 = .ok (.iastore, 1) := by decide +kernel
theorem dX11_grows_63 : decode cX11_grows 63 = .ok (.aload_n 0, 1) := by decide +kernel
theorem dX11_grows_64 : decode cX11_grows 64 = .ok (.getfield 109, 3) := by decide +kernel
theorem dX11_grows_67 : decode cX11_grows 67 = .ok (.iload_n 1, 1) := by decide +kernel
theorem dX11_grows_68 : decode cX11_grows 68 = .ok (.iaload, 1) := by decide +kernel
theorem dX11_grows_69 : decode cX11_grows 69 = .ok (.aload_n 0, 1) := by decide +kernel
theorem dX11_grows_70 : decode cX11_grows 70 = .ok (.getfield 157, 3) := by decide +kernel
theorem dX11_grows_73 : decode cX11_grows 73 = .ok (.iload_n 1, 1) := by decide +kernel
theorem dX11_grows_74 : decode cX11_grows 74 = .ok (.iaload, 1) := by decide +kernel
theorem dX11_grows_75 : decode cX11_grows 75 = .ok (.if_icmp .ge 28, 3) := by decide +kernel
theorem dX11_grows_78 : decode cX11_grows 78 = .ok (.aload_n 0, 1) := by decide +kernel
theorem dX11_grows_79 : decode cX11_grows 79 = .ok (.getfield 157, 3) := by decide +kernel
theorem dX11_grows_82 : decode cX11_grows 82 = .ok (.iload_n 1, 1) := by decide +kernel
theorem dX11_grows_83 : decode cX11_grows 83 = .ok (.iaload, 1) := by decide +kernel
theorem dX11_grows_84 : decode cX11_grows 84 = .ok (.aload_n 0, 1) := by decide +kernel
theorem dX11_grows_85 : decode cX11_grows 85 = .ok (.getfield 109, 3) := by decide +kernel
theorem dX11_grows_88 : decode cX11_grows 88 = .ok (.iload_n 1, 1) := by decide +kernel
theorem dX11_grows_89 : decode cX11_grows 89 = .ok (.iaload, 1) := by decide +kernel
theorem dX11_grows_90 : decode cX11_grows 90 = .ok (.isub, 1) := by decide +kernel
theorem dX11_grows_91 : decode cX11_grows 91 = .ok (.i2l, 1) := by decide +kernel
theorem dX11_grows_92 : decode cX11_grows 92 = .ok (.ldc2_w 307, 3) := by decide +kernel
theorem dX11_grows_95 : decode cX11_grows 95 = .ok (.lmul, 1) := by decide +kernel
theorem dX11_grows_96 : decode cX11_grows 96 = .ok (.ldc2_w 309, 3) := by decide +kernel
theorem dX11_grows_99 : decode cX11_grows 99 = .ok (.ldiv, 1) := by decide +kernel
theorem dX11_grows_100 : decode cX11_grows 100 = .ok (.goto 4, 3) := by decide +kernel
theorem dX11_grows_103 : decode cX11_grows 103 = .ok (.lconst 0, 1) := by decide +kernel
theorem dX11_grows_104 : decode cX11_grows 104 = .ok (.lstore_n 2, 1) := by decide +kernel
theorem dX11_grows_105 : decode cX11_grows 105 = .ok (.iconst 0, 1) := by decide +kernel
theorem dX11_grows_106 : decode cX11_grows 106 = .ok (.istore 4, 2) := by decide +kernel
theorem dX11_grows_108 : decode cX11_grows 108 = .ok (.iload 4, 2) := by decide +kernel
theorem dX11_grows_110 : decode cX11_grows 110 = .ok (.i2l, 1) := by decide +kernel
theorem dX11_grows_111 : decode cX11_grows 111 = .ok (.lconst 1, 1) := by decide +kernel
theorem dX11_grows_112 : decode cX11_grows 112 = .ok (.ladd, 1) := by decide +kernel
theorem dX11_grows_113 : decode cX11_grows 113 = .ok (.iload 4, 2) := by decide +kernel
theorem dX11_grows_115 : decode cX11_grows 115 = .ok (.i2l, 1) := by decide +kernel
theorem dX11_grows_116 : decode cX11_grows 116 = .ok (.lconst 1, 1) := by decide +kernel
theorem dX11_grows_117 : decode cX11_grows 117 = .ok (.ladd, 1) := by decide +kernel
theorem dX11_grows_118 : decode cX11_grows 118 = .ok (.lmul, 1) := by decide +kernel
theorem dX11_grows_119 : decode cX11_grows 119 = .ok (.iload 4, 2) := by decide +kernel
theorem dX11_grows_121 : decode cX11_grows 121 = .ok (.i2l, 1) := by decide +kernel
theorem dX11_grows_122 : decode cX11_grows 122 = .ok (.lconst 1, 1) := by decide +kernel
theorem dX11_grows_123 : decode cX11_grows 123 = .ok (.ladd, 1) := by decide +kernel
theorem dX11_grows_124 : decode cX11_grows 124 = .ok (.lmul, 1) := by decide +kernel
theorem dX11_grows_125 : decode cX11_grows 125 = .ok (.lload_n 2, 1) := by decide +kernel
theorem dX11_grows_126 : decode cX11_grows 126 = .ok (.lcmp, 1) := by decide +kernel
theorem dX11_grows_127 : decode cX11_grows 127 = .ok (.ifCond .gt 9, 3) := by decide +kernel
theorem dX11_grows_130 : decode cX11_grows 130 = .ok (.iinc 4 1, 3) := by decide +kernel
theorem dX11_grows_133 : decode cX11_grows 133 = .ok (.goto (-25), 3) := by decide +kernel
theorem dX11_grows_136 : decode cX11_grows 136 = .ok (.aload_n 0, 1) := by decide +kernel
theorem dX11_grows_137 : decode cX11_grows 137 = .ok (.getfield 160, 3) := by decide +kernel
theorem dX11_grows_140 : decode cX11_grows 140 = .ok (.iload_n 1, 1) := by decide +kernel
theorem dX11_grows_141 : decode cX11_grows 141 = .ok (.iload 4, 2) := by decide +kernel
theorem dX11_grows_143 : decode cX11_grows 143 = .ok (.iastore, 1) := by decide +kernel
theorem dX11_grows_144 : decode cX11_grows 144 = .ok (.aload_n 0, 1) := by decide +kernel
theorem dX11_grows_145 : decode cX11_grows 145 = .ok (.getfield 163, 3) := by decide +kernel
theorem dX11_grows_148 : decode cX11_grows 148 = .ok (.iload_n 1, 1) := by decide +kernel
theorem dX11_grows_149 : decode cX11_grows 149 = .ok (.aload_n 0, 1) := by decide +kernel
theorem dX11_grows_150 : decode cX11_grows 150 = .ok (.getfield 157, 3) := by decide +kernel
theorem dX11_grows_153 : decode cX11_grows 153 = .ok (.iload_n 1, 1) := by decide +kernel
theorem dX11_grows_154 : decode cX11_grows 154 = .ok (.iaload, 1) := by decide +kernel
theorem dX11_grows_155 : decode cX11_grows 155 = .ok (.aload_n 0, 1) := by decide +kernel
theorem dX11_grows_156 : decode cX11_grows 156 = .ok (.getfield 109, 3) := by decide +kernel
theorem dX11_grows_159 : decode cX11_grows 159 = .ok (.iload_n 1, 1) := by decide +kernel
theorem dX11_grows_160 : decode cX11_grows 160 = .ok (.iaload, 1) := by decide +kernel
theorem dX11_grows_161 : decode cX11_grows 161 = .ok (.if_icmp .le 12, 3) := by decide +kernel
theorem dX11_grows_164 : decode cX11_grows 164 = .ok (.aload_n 0, 1) := by decide +kernel
theorem dX11_grows_165 : decode cX11_grows 165 = .ok (.getfield 157, 3) := by decide +kernel
theorem dX11_grows_168 : decode cX11_grows 168 = .ok (.iload_n 1, 1) := by decide +kernel
theorem dX11_grows_169 : decode cX11_grows 169 = .ok (.iaload, 1) := by decide +kernel
theorem dX11_grows_170 : decode cX11_grows 170 = .ok (.goto 9, 3) := by decide +kernel
theorem dX11_grows_173 : decode cX11_grows 173 = .ok (.aload_n 0, 1) := by decide +kernel
theorem dX11_grows_174 : decode cX11_grows 174 = .ok (.getfield 109, 3) := by decide +kernel
theorem dX11_grows_177 : decode cX11_grows 177 = .ok (.iload_n 1, 1) := by decide +kernel
theorem dX11_grows_178 : decode cX11_grows 178 = .ok (.iaload, 1) := by decide +kernel
theorem dX11_grows_179 : decode cX11_grows 179 = .ok (.iastore, 1) := by decide +kernel
theorem dX11_grows_180 : decode cX11_grows 180 = .ok (.aload_n 0, 1) := by decide +kernel
theorem dX11_grows_181 : decode cX11_grows 181 = .ok (.getfield 166, 3) := by decide +kernel
theorem dX11_grows_184 : decode cX11_grows 184 = .ok (.iload_n 1, 1) := by decide +kernel
theorem dX11_grows_185 : decode cX11_grows 185 = .ok (.aload_n 0, 1) := by decide +kernel
theorem dX11_grows_186 : decode cX11_grows 186 = .ok (.getfield 109, 3) := by decide +kernel
theorem dX11_grows_189 : decode cX11_grows 189 = .ok (.iload_n 1, 1) := by decide +kernel
theorem dX11_grows_190 : decode cX11_grows 190 = .ok (.iaload, 1) := by decide +kernel
theorem dX11_grows_191 : decode cX11_grows 191 = .ok (.iastore, 1) := by decide +kernel
theorem dX11_grows_192 : decode cX11_grows 192 = .ok (.aload_n 0, 1) := by decide +kernel
theorem dX11_grows_193 : decode cX11_grows 193 = .ok (.getfield 207, 3) := by decide +kernel
theorem dX11_grows_196 : decode cX11_grows 196 = .ok (.i2l, 1) := by decide +kernel
theorem dX11_grows_197 : decode cX11_grows 197 = .ok (.aload_n 0, 1) := by decide +kernel
theorem dX11_grows_198 : decode cX11_grows 198 = .ok (.getfield 169, 3) := by decide +kernel
theorem dX11_grows_201 : decode cX11_grows 201 = .ok (.iload_n 1, 1) := by decide +kernel
theorem dX11_grows_202 : decode cX11_grows 202 = .ok (.iaload, 1) := by decide +kernel
theorem dX11_grows_203 : decode cX11_grows 203 = .ok (.i2l, 1) := by decide +kernel
theorem dX11_grows_204 : decode cX11_grows 204 = .ok (.lsub, 1) := by decide +kernel
theorem dX11_grows_205 : decode cX11_grows 205 = .ok (.aload_n 0, 1) := by decide +kernel
theorem dX11_grows_206 : decode cX11_grows 206 = .ok (.getfield 118, 3) := by decide +kernel
theorem dX11_grows_209 : decode cX11_grows 209 = .ok (.iload_n 1, 1) := by decide +kernel
theorem dX11_grows_210 : decode cX11_grows 210 = .ok (.iaload, 1) := by decide +kernel
theorem dX11_grows_211 : decode cX11_grows 211 = .ok (.bipush 8, 2) := by decide +kernel
theorem dX11_grows_213 : decode cX11_grows 213 = .ok (.idiv, 1) := by decide +kernel
theorem dX11_grows_214 : decode cX11_grows 214 = .ok (.i2l, 1) := by decide +kernel
theorem dX11_grows_215 : decode cX11_grows 215 = .ok (.ladd, 1) := by decide +kernel
theorem dX11_grows_216 : decode cX11_grows 216 = .ok (.aload_n 0, 1) := by decide +kernel
theorem dX11_grows_217 : decode cX11_grows 217 = .ok (.getfield 160, 3) := by decide +kernel
theorem dX11_grows_220 : decode cX11_grows 220 = .ok (.iload_n 1, 1) := by decide +kernel
theorem dX11_grows_221 : decode cX11_grows 221 = .ok (.iaload, 1) := by decide +kernel
theorem dX11_grows_222 : decode cX11_grows 222 = .ok (.i2l, 1) := by decide +kernel
theorem dX11_grows_223 : decode cX11_grows 223 = .ok (.lsub, 1) := by decide +kernel
theorem dX11_grows_224 : decode cX11_grows 224 = .ok (.lstore_n 2, 1) := by decide +kernel
theorem dX11_grows_225 : decode cX11_grows 225 = .ok (.lload_n 2, 1) := by decide +kernel
theorem dX11_grows_226 : decode cX11_grows 226 = .ok (.ldc2_w 311, 3) := by decide +kernel
theorem dX11_grows_229 : decode cX11_grows 229 = .ok (.lcmp, 1) := by decide +kernel
theorem dX11_grows_230 : decode cX11_grows 230 = .ok (.ifCond .ge 9, 3) := by decide +kernel
theorem dX11_grows_233 : decode cX11_grows 233 = .ok (.ldc2_w 311, 3) := by decide +kernel
theorem dX11_grows_236 : decode cX11_grows 236 = .ok (.goto 18, 3) := by decide +kernel
theorem dX11_grows_239 : decode cX11_grows 239 = .ok (.lload_n 2, 1) := by decide +kernel
theorem dX11_grows_240 : decode cX11_grows 240 = .ok (.ldc2_w 313, 3) := by decide +kernel
theorem dX11_grows_243 : decode cX11_grows 243 = .ok (.lcmp, 1) := by decide +kernel
theorem dX11_grows_244 : decode cX11_grows 244 = .ok (.ifCond .le 9, 3) := by decide +kernel
theorem dX11_grows_247 : decode cX11_grows 247 = .ok (.ldc2_w 313, 3) := by decide +kernel
theorem dX11_grows_250 : decode cX11_grows 250 = .ok (.goto 4, 3) := by decide +kernel
theorem dX11_grows_253 : decode cX11_grows 253 = .ok (.lload_n 2, 1) := by decide +kernel
theorem dX11_grows_254 : decode cX11_grows 254 = .ok (.lstore_n 2, 1) := by decide +kernel
theorem dX11_grows_255 : decode cX11_grows 255 = .ok (.aload_n 0, 1) := by decide +kernel
theorem dX11_grows_256 : decode cX11_grows 256 = .ok (.getfield 163, 3) := by decide +kernel
theorem dX11_grows_259 : decode cX11_grows 259 = .ok (.iload_n 1, 1) := by decide +kernel
theorem dX11_grows_260 : decode cX11_grows 260 = .ok (.iaload, 1) := by decide +kernel
theorem dX11_grows_261 : decode cX11_grows 261 = .ok (.i2l, 1) := by decide +kernel
theorem dX11_grows_262 : decode cX11_grows 262 = .ok (.lload_n 2, 1) := by decide +kernel
theorem dX11_grows_263 : decode cX11_grows 263 = .ok (.lload_n 2, 1) := by decide +kernel
theorem dX11_grows_264 : decode cX11_grows 264 = .ok (.lmul, 1) := by decide +kernel
theorem dX11_grows_265 : decode cX11_grows 265 = .ok (.lload_n 2, 1) := by decide +kernel
theorem dX11_grows_266 : decode cX11_grows 266 = .ok (.lmul, 1) := by decide +kernel
theorem dX11_grows_267 : decode cX11_grows 267 = .ok (.ldc2_w 315, 3) := by decide +kernel
theorem dX11_grows_270 : decode cX11_grows 270 = .ok (.lmul, 1) := by decide +kernel
theorem dX11_grows_271 : decode cX11_grows 271 = .ok (.ldc2_w 317, 3) := by decide +kernel
theorem dX11_grows_274 : decode cX11_grows 274 = .ok (.ldiv, 1) := by decide +kernel
theorem dX11_grows_275 : decode cX11_grows 275 = .ok (.ladd, 1) := by decide +kernel
theorem dX11_grows_276 : decode cX11_grows 276 = .ok (.lstore 4, 2) := by decide +kernel
theorem dX11_grows_278 : decode cX11_grows 278 = .ok (.aload_n 0, 1) := by decide +kernel
theorem dX11_grows_279 : decode cX11_grows 279 = .ok (.getfield 109, 3) := by decide +kernel
theorem dX11_grows_282 : decode cX11_grows 282 = .ok (.iload_n 1, 1) := by decide +kernel
theorem dX11_grows_283 : decode cX11_grows 283 = .ok (.iaload, 1) := by decide +kernel
theorem dX11_grows_284 : decode cX11_grows 284 = .ok (.iconst 3, 1) := by decide +kernel
theorem dX11_grows_285 : decode cX11_grows 285 = .ok (.imul, 1) := by decide +kernel
theorem dX11_grows_286 : decode cX11_grows 286 = .ok (.iconst 2, 1) := by decide +kernel
theorem dX11_grows_287 : decode cX11_grows 287 = .ok (.idiv, 1) := by decide +kernel
theorem dX11_grows_288 : decode cX11_grows 288 = .ok (.i2l, 1) := by decide +kernel
theorem dX11_grows_289 : decode cX11_grows 289 = .ok (.lstore 6, 2) := by decide +kernel
theorem dX11_grows_291 : decode cX11_grows 291 = .ok (.lload 4, 2) := by decide +kernel
theorem dX11_grows_293 : decode cX11_grows 293 = .ok (.aload_n 0, 1) := by decide +kernel
theorem dX11_grows_294 : decode cX11_grows 294 = .ok (.getfield 109, 3) := by decide +kernel
theorem dX11_grows_297 : decode cX11_grows 297 = .ok (.iload_n 1, 1) := by decide +kernel
theorem dX11_grows_298 : decode cX11_grows 298 = .ok (.iaload, 1) := by decide +kernel
theorem dX11_grows_299 : decode cX11_grows 299 = .ok (.i2l, 1) := by decide +kernel
theorem dX11_grows_300 : decode cX11_grows 300 = .ok (.lcmp, 1) := by decide +kernel
theorem dX11_grows_301 : decode cX11_grows 301 = .ok (.ifCond .ge 13, 3) := by decide +kernel
theorem dX11_grows_304 : decode cX11_grows 304 = .ok (.aload_n 0, 1) := by decide +kernel
theorem dX11_grows_305 : decode cX11_grows 305 = .ok (.getfield 109, 3) := by decide +kernel
theorem dX11_grows_308 : decode cX11_grows 308 = .ok (.iload_n 1, 1) := by decide +kernel
theorem dX11_grows_309 : decode cX11_grows 309 = .ok (.iaload, 1) := by decide +kernel
theorem dX11_grows_310 : decode cX11_grows 310 = .ok (.i2l, 1) := by decide +kernel
theorem dX11_grows_311 : decode cX11_grows 311 = .ok (.goto 18, 3) := by decide +kernel
theorem dX11_grows_314 : decode cX11_grows 314 = .ok (.lload 4, 2) := by decide +kernel
theorem dX11_grows_316 : decode cX11_grows 316 = .ok (.lload 6, 2) := by decide +kernel
theorem dX11_grows_318 : decode cX11_grows 318 = .ok (.lcmp, 1) := by decide +kernel
theorem dX11_grows_319 : decode cX11_grows 319 = .ok (.ifCond .le 8, 3) := by decide +kernel
theorem dX11_grows_322 : decode cX11_grows 322 = .ok (.lload 6, 2) := by decide +kernel
theorem dX11_grows_324 : decode cX11_grows 324 = .ok (.goto 5, 3) := by decide +kernel
theorem dX11_grows_327 : decode cX11_grows 327 = .ok (.lload 4, 2) := by decide +kernel
theorem dX11_grows_329 : decode cX11_grows 329 = .ok (.lstore 4, 2) := by decide +kernel
theorem dX11_grows_331 : decode cX11_grows 331 = .ok (.aload_n 0, 1) := by decide +kernel
theorem dX11_grows_332 : decode cX11_grows 332 = .ok (.getfield 166, 3) := by decide +kernel
theorem dX11_grows_335 : decode cX11_grows 335 = .ok (.iload_n 1, 1) := by decide +kernel
theorem dX11_grows_336 : decode cX11_grows 336 = .ok (.dup2, 1) := by decide +kernel
theorem dX11_grows_337 : decode cX11_grows 337 = .ok (.iaload, 1) := by decide +kernel
theorem dX11_grows_338 : decode cX11_grows 338 = .ok (.ldc_w 319, 3) := by decide +kernel
theorem dX11_grows_341 : decode cX11_grows 341 = .ok (.aload_n 0, 1) := by decide +kernel
theorem dX11_grows_342 : decode cX11_grows 342 = .ok (.getfield 109, 3) := by decide +kernel
theorem dX11_grows_345 : decode cX11_grows 345 = .ok (.iload_n 1, 1) := by decide +kernel
theorem dX11_grows_346 : decode cX11_grows 346 = .ok (.iaload, 1) := by decide +kernel
theorem dX11_grows_347 : decode cX11_grows 347 = .ok (.idiv, 1) := by decide +kernel
theorem dX11_grows_348 : decode cX11_grows 348 = .ok (.iadd, 1) := by decide +kernel
theorem dX11_grows_349 : decode cX11_grows 349 = .ok (.iastore, 1) := by decide +kernel
theorem dX11_grows_350 : decode cX11_grows 350 = .ok (.lload 4, 2) := by decide +kernel
theorem dX11_grows_352 : decode cX11_grows 352 = .ok (.aload_n 0, 1) := by decide +kernel
theorem dX11_grows_353 : decode cX11_grows 353 = .ok (.getfield 109, 3) := by decide +kernel
theorem dX11_grows_356 : decode cX11_grows 356 = .ok (.iload_n 1, 1) := by decide +kernel
theorem dX11_grows_357 : decode cX11_grows 357 = .ok (.iaload, 1) := by decide +kernel
theorem dX11_grows_358 : decode cX11_grows 358 = .ok (.i2l, 1) := by decide +kernel
theorem dX11_grows_359 : decode cX11_grows 359 = .ok (.lsub, 1) := by decide +kernel
theorem dX11_grows_360 : decode cX11_grows 360 = .ok (.ldc2_w 309, 3) := by decide +kernel
theorem dX11_grows_363 : decode cX11_grows 363 = .ok (.lmul, 1) := by decide +kernel
theorem dX11_grows_364 : decode cX11_grows 364 = .ok (.aload_n 0, 1) := by decide +kernel
theorem dX11_grows_365 : decode cX11_grows 365 = .ok (.getfield 109, 3) := by decide +kernel
theorem dX11_grows_368 : decode cX11_grows 368 = .ok (.iload_n 1, 1) := by decide +kernel
theorem dX11_grows_369 : decode cX11_grows 369 = .ok (.iaload, 1) := by decide +kernel
theorem dX11_grows_370 : decode cX11_grows 370 = .ok (.i2l, 1) := by decide +kernel
theorem dX11_grows_371 : decode cX11_grows 371 = .ok (.ldiv, 1) := by decide +kernel
theorem dX11_grows_372 : decode cX11_grows 372 = .ok (.l2i, 1) := by decide +kernel
theorem dX11_grows_373 : decode cX11_grows 373 = .ok (.istore 8, 2) := by decide +kernel
theorem dX11_grows_375 : decode cX11_grows 375 = .ok (.aload_n 0, 1) := by decide +kernel
theorem dX11_grows_376 : decode cX11_grows 376 = .ok (.getfield 109, 3) := by decide +kernel
theorem dX11_grows_379 : decode cX11_grows 379 = .ok (.iload_n 1, 1) := by decide +kernel
theorem dX11_grows_380 : decode cX11_grows 380 = .ok (.iaload, 1) := by decide +kernel
theorem dX11_grows_381 : decode cX11_grows 381 = .ok (.iload 8, 2) := by decide +kernel
theorem dX11_grows_383 : decode cX11_grows 383 = .ok (.iconst 1, 1) := by decide +kernel
theorem dX11_grows_384 : decode cX11_grows 384 = .ok (.if_icmp .le 8, 3) := by decide +kernel
theorem dX11_grows_387 : decode cX11_grows 387 = .ok (.iload 8, 2) := by decide +kernel
theorem dX11_grows_389 : decode cX11_grows 389 = .ok (.goto 4, 3) := by decide +kernel
theorem dX11_grows_392 : decode cX11_grows 392 = .ok (.iconst 1, 1) := by decide +kernel
theorem dX11_grows_393 : decode cX11_grows 393 = .ok (.iadd, 1) := by decide +kernel
theorem dX11_grows_394 : decode cX11_grows 394 = .ok (.istore 9, 2) := by decide +kernel
theorem dX11_grows_396 : decode cX11_grows 396 = .ok (.aload_n 0, 1) := by decide +kernel
theorem dX11_grows_397 : decode cX11_grows 397 = .ok (.iload_n 1, 1) := by decide +kernel
theorem dX11_grows_398 : decode cX11_grows 398 = .ok (.aload_n 0, 1) := by decide +kernel
theorem dX11_grows_399 : decode cX11_grows 399 = .ok (.getfield 166, 3) := by decide +kernel
theorem dX11_grows_402 : decode cX11_grows 402 = .ok (.iload_n 1, 1) := by decide +kernel
theorem dX11_grows_403 : decode cX11_grows 403 = .ok (.iaload, 1) := by decide +kernel
theorem dX11_grows_404 : decode cX11_grows 404 = .ok (.iload 9, 2) := by decide +kernel
theorem dX11_grows_406 : decode cX11_grows 406 = .ok (.if_icmp .le 12, 3) := by decide +kernel
theorem dX11_grows_409 : decode cX11_grows 409 = .ok (.aload_n 0, 1) := by decide +kernel
theorem dX11_grows_410 : decode cX11_grows 410 = .ok (.getfield 166, 3) := by decide +kernel
theorem dX11_grows_413 : decode cX11_grows 413 = .ok (.iload_n 1, 1) := by decide +kernel
theorem dX11_grows_414 : decode cX11_grows 414 = .ok (.iaload, 1) := by decide +kernel
theorem dX11_grows_415 : decode cX11_grows 415 = .ok (.goto 5, 3) := by decide +kernel
theorem dX11_grows_418 : decode cX11_grows 418 = .ok (.iload 9, 2) := by decide +kernel
theorem dX11_grows_420 : decode cX11_grows 420 = .ok (.invokevirtual 295, 3) := by decide +kernel
theorem dX11_grows_423 : decode cX11_grows 423 = .ok (.return_, 1) := by decide +kernel
theorem dX11_due_0 : decode cX11_due 0 = .ok (.aload_n 0, 1) := by decide +kernel
theorem dX11_due_1 : decode cX11_due 1 = .ok (.getfield 175, 3) := by decide +kernel
theorem dX11_due_4 : decode cX11_due 4 = .ok (.iload_n 1, 1) := by decide +kernel
theorem dX11_due_5 : decode cX11_due 5 = .ok (.iconst (-1), 1) := by decide +kernel
theorem dX11_due_6 : decode cX11_due 6 = .ok (.iastore, 1) := by decide +kernel
theorem dX11_due_7 : decode cX11_due 7 = .ok (.aload_n 0, 1) := by decide +kernel
theorem dX11_due_8 : decode cX11_due 8 = .ok (.getfield 103, 3) := by decide +kernel
theorem dX11_due_11 : decode cX11_due 11 = .ok (.iload_n 1, 1) := by decide +kernel
theorem dX11_due_12 : decode cX11_due 12 = .ok (.iaload, 1) := by decide +kernel
theorem dX11_due_13 : decode cX11_due 13 = .ok (.aload_n 0, 1) := by decide +kernel
theorem dX11_due_14 : decode cX11_due 14 = .ok (.getfield 100, 3) := by decide +kernel
theorem dX11_due_17 : decode cX11_due 17 = .ok (.iload_n 1, 1) := by decide +kernel
theorem dX11_due_18 : decode cX11_due 18 = .ok (.iaload, 1) := by decide +kernel
theorem dX11_due_19 : decode cX11_due 19 = .ok (.if_icmp .le 105, 3) := by decide +kernel
theorem dX11_due_22 : decode cX11_due 22 = .ok (.aload_n 0, 1) := by decide +kernel
theorem dX11_due_23 : decode cX11_due 23 = .ok (.getfield 139, 3) := by decide +kernel
theorem dX11_due_26 : decode cX11_due 26 = .ok (.iload_n 1, 1) := by decide +kernel
theorem dX11_due_27 : decode cX11_due 27 = .ok (.dup2, 1) := by decide +kernel
theorem dX11_due_28 : decode cX11_due 28 = .ok (.iaload, 1) := by decide +kernel
theorem dX11_due_29 : decode cX11_due 29 = .ok (.iconst 1, 1) := by decide +kernel
theorem dX11_due_30 : decode cX11_due 30 = .ok (.iadd, 1) := by decide +kernel
theorem dX11_due_31 : decode cX11_due 31 = .ok (.iastore, 1) := by decide +kernel
theorem dX11_due_32 : decode cX11_due 32 = .ok (.aload_n 0, 1) := by decide +kernel
theorem dX11_due_33 : decode cX11_due 33 = .ok (.iload_n 1, 1) := by decide +kernel
theorem dX11_due_34 : decode cX11_due 34 = .ok (.invokevirtual 304, 3) := by decide +kernel
theorem dX11_due_37 : decode cX11_due 37 = .ok (.aload_n 0, 1) := by decide +kernel
theorem dX11_due_38 : decode cX11_due 38 = .ok (.iload_n 1, 1) := by decide +kernel
theorem dX11_due_39 : decode cX11_due 39 = .ok (.sipush 1024, 3) := by decide +kernel
theorem dX11_due_42 : decode cX11_due 42 = .ok (.invokevirtual 295, 3) := by decide +kernel
theorem dX11_due_45 : decode cX11_due 45 = .ok (.aload_n 0, 1) := by decide +kernel
theorem dX11_due_46 : decode cX11_due 46 = .ok (.iload_n 1, 1) := by decide +kernel
theorem dX11_due_47 : decode cX11_due 47 = .ok (.invokevirtual 320, 3) := by decide +kernel
theorem dX11_due_50 : decode cX11_due 50 = .ok (.aload_n 0, 1) := by decide +kernel
theorem dX11_due_51 : decode cX11_due 51 = .ok (.getfield 130, 3) := by decide +kernel
theorem dX11_due_54 : decode cX11_due 54 = .ok (.iload_n 1, 1) := by decide +kernel
theorem dX11_due_55 : decode cX11_due 55 = .ok (.iconst 0, 1) := by decide +kernel
theorem dX11_due_56 : decode cX11_due 56 = .ok (.bastore, 1) := by decide +kernel
theorem dX11_due_57 : decode cX11_due 57 = .ok (.aload_n 0, 1) := by decide +kernel
theorem dX11_due_58 : decode cX11_due 58 = .ok (.getfield 127, 3) := by decide +kernel
theorem dX11_due_61 : decode cX11_due 61 = .ok (.iload_n 1, 1) := by decide +kernel
theorem dX11_due_62 : decode cX11_due 62 = .ok (.iconst 0, 1) := by decide +kernel
theorem dX11_due_63 : decode cX11_due 63 = .ok (.iastore, 1) := by decide +kernel
theorem dX11_due_64 : decode cX11_due 64 = .ok (.aload_n 0, 1) := by decide +kernel
theorem dX11_due_65 : decode cX11_due 65 = .ok (.getfield 133, 3) := by decide +kernel
theorem dX11_due_68 : decode cX11_due 68 = .ok (.iload_n 1, 1) := by decide +kernel
theorem dX11_due_69 : decode cX11_due 69 = .ok (.aload_n 0, 1) := by decide +kernel
theorem dX11_due_70 : decode cX11_due 70 = .ok (.getfield 106, 3) := by decide +kernel
theorem dX11_due_73 : decode cX11_due 73 = .ok (.iload_n 1, 1) := by decide +kernel
theorem dX11_due_74 : decode cX11_due 74 = .ok (.iaload, 1) := by decide +kernel
theorem dX11_due_75 : decode cX11_due 75 = .ok (.iastore, 1) := by decide +kernel
theorem dX11_due_76 : decode cX11_due 76 = .ok (.aload_n 0, 1) := by decide +kernel
theorem dX11_due_77 : decode cX11_due 77 = .ok (.getfield 103, 3) := by decide +kernel
theorem dX11_due_80 : decode cX11_due 80 = .ok (.iload_n 1, 1) := by decide +kernel
theorem dX11_due_81 : decode cX11_due 81 = .ok (.aload_n 0, 1) := by decide +kernel
theorem dX11_due_82 : decode cX11_due 82 = .ok (.getfield 100, 3) := by decide +kernel
theorem dX11_due_85 : decode cX11_due 85 = .ok (.iload_n 1, 1) := by decide +kernel
theorem dX11_due_86 : decode cX11_due 86 = .ok (.iaload, 1) := by decide +kernel
theorem dX11_due_87 : decode cX11_due 87 = .ok (.iastore, 1) := by decide +kernel
theorem dX11_due_88 : decode cX11_due 88 = .ok (.iconst 0, 1) := by decide +kernel
theorem dX11_due_89 : decode cX11_due 89 = .ok (.istore_n 2, 1) := by decide +kernel
theorem dX11_due_90 : decode cX11_due 90 = .ok (.iload_n 2, 1) := by decide +kernel
theorem dX11_due_91 : decode cX11_due 91 = .ok (.sipush 200, 3) := by decide +kernel
theorem dX11_due_94 : decode cX11_due 94 = .ok (.if_icmp .ge 22, 3) := by decide +kernel
theorem dX11_due_97 : decode cX11_due 97 = .ok (.aload_n 0, 1) := by decide +kernel
theorem dX11_due_98 : decode cX11_due 98 = .ok (.getfield 181, 3) := by decide +kernel
theorem dX11_due_101 : decode cX11_due 101 = .ok (.sipush 200, 3) := by decide +kernel
theorem dX11_due_104 : decode cX11_due 104 = .ok (.iload_n 1, 1) := by decide +kernel
theorem dX11_due_105 : decode cX11_due 105 = .ok (.imul, 1) := by decide +kernel
theorem dX11_due_106 : decode cX11_due 106 = .ok (.iload_n 2, 1) := by decide +kernel
theorem dX11_due_107 : decode cX11_due 107 = .ok (.iadd, 1) := by decide +kernel
theorem dX11_due_108 : decode cX11_due 108 = .ok (.iconst 0, 1) := by decide +kernel
theorem dX11_due_109 : decode cX11_due 109 = .ok (.bastore, 1) := by decide +kernel
theorem dX11_due_110 : decode cX11_due 110 = .ok (.iinc 2 1, 3) := by decide +kernel
theorem dX11_due_113 : decode cX11_due 113 = .ok (.goto (-23), 3) := by decide +kernel
theorem dX11_due_116 : decode cX11_due 116 = .ok (.aload_n 0, 1) := by decide +kernel
theorem dX11_due_117 : decode cX11_due 117 = .ok (.getfield 151, 3) := by decide +kernel
theorem dX11_due_120 : decode cX11_due 120 = .ok (.iload_n 1, 1) := by decide +kernel
theorem dX11_due_121 : decode cX11_due 121 = .ok (.iconst (-1), 1) := by decide +kernel
theorem dX11_due_122 : decode cX11_due 122 = .ok (.iastore, 1) := by decide +kernel
theorem dX11_due_123 : decode cX11_due 123 = .ok (.return_, 1) := by decide +kernel
theorem dX11_due_124 : decode cX11_due 124 = .ok (.aload_n 0, 1) := by decide +kernel
theorem dX11_due_125 : decode cX11_due 125 = .ok (.getfield 151, 3) := by decide +kernel
theorem dX11_due_128 : decode cX11_due 128 = .ok (.iload_n 1, 1) := by decide +kernel
theorem dX11_due_129 : decode cX11_due 129 = .ok (.iconst (-1), 1) := by decide +kernel
theorem dX11_due_130 : decode cX11_due 130 = .ok (.iastore, 1) := by decide +kernel
theorem dX11_due_131 : decode cX11_due 131 = .ok (.aload_n 0, 1) := by decide +kernel
theorem dX11_due_132 : decode cX11_due 132 = .ok (.getfield 148, 3) := by decide +kernel
theorem dX11_due_135 : decode cX11_due 135 = .ok (.iload_n 1, 1) := by decide +kernel
theorem dX11_due_136 : decode cX11_due 136 = .ok (.iaload, 1) := by decide +kernel
theorem dX11_due_137 : decode cX11_due 137 = .ok (.ifCond .gt 18, 3) := by decide +kernel
theorem dX11_due_140 : decode cX11_due 140 = .ok (.aload_n 0, 1) := by decide +kernel
theorem dX11_due_141 : decode cX11_due 141 = .ok (.getfield 103, 3) := by decide +kernel
theorem dX11_due_144 : decode cX11_due 144 = .ok (.iload_n 1, 1) := by decide +kernel
theorem dX11_due_145 : decode cX11_due 145 = .ok (.iaload, 1) := by decide +kernel
theorem dX11_due_146 : decode cX11_due 146 = .ok (.aload_n 0, 1) := by decide +kernel
theorem dX11_due_147 : decode cX11_due 147 = .ok (.getfield 97, 3) := by decide +kernel
theorem dX11_due_150 : decode cX11_due 150 = .ok (.iload_n 1, 1) := by decide +kernel
theorem dX11_due_151 : decode cX11_due 151 = .ok (.iaload, 1) := by decide +kernel
theorem dX11_due_152 : decode cX11_due 152 = .ok (.if_icmp .lt 4, 3) := by decide +kernel
theorem dX11_due_155 : decode cX11_due 155 = .ok (.return_, 1) := by decide +kernel
theorem dX11_due_156 : decode cX11_due 156 = .ok (.aload_n 0, 1) := by decide +kernel
theorem dX11_due_157 : decode cX11_due 157 = .ok (.getfield 154, 3) := by decide +kernel
theorem dX11_due_160 : decode cX11_due 160 = .ok (.iload_n 1, 1) := by decide +kernel
theorem dX11_due_161 : decode cX11_due 161 = .ok (.dup2, 1) := by decide +kernel
theorem dX11_due_162 : decode cX11_due 162 = .ok (.iaload, 1) := by decide +kernel
theorem dX11_due_163 : decode cX11_due 163 = .ok (.iconst 1, 1) := by decide +kernel
theorem dX11_due_164 : decode cX11_due 164 = .ok (.iadd, 1) := by decide +kernel
theorem dX11_due_165 : decode cX11_due 165 = .ok (.iastore, 1) := by decide +kernel
theorem dX11_due_166 : decode cX11_due 166 = .ok (.aload_n 0, 1) := by decide +kernel
theorem dX11_due_167 : decode cX11_due 167 = .ok (.iload_n 1, 1) := by decide +kernel
theorem dX11_due_168 : decode cX11_due 168 = .ok (.aload_n 0, 1) := by decide +kernel
theorem dX11_due_169 : decode cX11_due 169 = .ok (.getfield 103, 3) := by decide +kernel
theorem dX11_due_172 : decode cX11_due 172 = .ok (.iload_n 1, 1) := by decide +kernel
theorem dX11_due_173 : decode cX11_due 173 = .ok (.iaload, 1) := by decide +kernel
theorem dX11_due_174 : decode cX11_due 174 = .ok (.iconst 1, 1) := by decide +kernel
theorem dX11_due_175 : decode cX11_due 175 = .ok (.invokevirtual 323, 3) := by decide +kernel
theorem dX11_due_178 : decode cX11_due 178 = .ok (.aload_n 0, 1) := by decide +kernel
theorem dX11_due_179 : decode cX11_due 179 = .ok (.getfield 106, 3) := by decide +kernel
theorem dX11_due_182 : decode cX11_due 182 = .ok (.iload_n 1, 1) := by decide +kernel
theorem dX11_due_183 : decode cX11_due 183 = .ok (.aload_n 0, 1) := by decide +kernel
theorem dX11_due_184 : decode cX11_due 184 = .ok (.getfield 103, 3) := by decide +kernel
theorem dX11_due_187 : decode cX11_due 187 = .ok (.iload_n 1, 1) := by decide +kernel
theorem dX11_due_188 : decode cX11_due 188 = .ok (.iaload, 1) := by decide +kernel
theorem dX11_due_189 : decode cX11_due 189 = .ok (.iconst 1, 1) := by decide +kernel
theorem dX11_due_190 : decode cX11_due 190 = .ok (.iadd, 1) := by decide +kernel
theorem dX11_due_191 : decode cX11_due 191 = .ok (.aload_n 0, 1) := by decide +kernel
theorem dX11_due_192 : decode cX11_due 192 = .ok (.getfield 106, 3) := by decide +kernel
theorem dX11_due_195 : decode cX11_due 195 = .ok (.iload_n 1, 1) := by decide +kernel
theorem dX11_due_196 : decode cX11_due 196 = .ok (.iaload, 1) := by decide +kernel
theorem dX11_due_197 : decode cX11_due 197 = .ok (.if_icmp .le 14, 3) := by decide +kernel
theorem dX11_due_200 : decode cX11_due 200 = .ok (.aload_n 0, 1) := by decide +kernel
theorem dX11_due_201 : decode cX11_due 201 = .ok (.getfield 103, 3) := by decide +kernel
theorem dX11_due_204 : decode cX11_due 204 = .ok (.iload_n 1, 1) := by decide +kernel
theorem dX11_due_205 : decode cX11_due 205 = .ok (.iaload, 1) := by decide +kernel
theorem dX11_due_206 : decode cX11_due 206 = .ok (.iconst 1, 1) := by decide +kernel
theorem dX11_due_207 : decode cX11_due 207 = .ok (.iadd, 1) := by decide +kernel
theorem dX11_due_208 : decode cX11_due 208 = .ok (.goto 9, 3) := by decide +kernel
theorem dX11_due_211 : decode cX11_due 211 = .ok (.aload_n 0, 1) := by decide +kernel
theorem dX11_due_212 : decode cX11_due 212 = .ok (.getfield 106, 3) := by decide +kernel
theorem dX11_due_215 : decode cX11_due 215 = .ok (.iload_n 1, 1) := by decide +kernel
theorem dX11_due_216 : decode cX11_due 216 = .ok (.iaload, 1) := by decide +kernel
theorem dX11_due_217 : decode cX11_due 217 = .ok (.iastore, 1) := by decide +kernel
theorem dX11_due_218 : decode cX11_due 218 = .ok (.aload_n 0, 1) := by decide +kernel
theorem dX11_due_219 : decode cX11_due 219 = .ok (.iload_n 1, 1) := by decide +kernel
theorem dX11_due_220 : decode cX11_due 220 = .ok (.invokevirtual 320, 3) := by decide +kernel
theorem dX11_due_223 : decode cX11_due 223 = .ok (.aload_n 0, 1) := by decide +kernel
theorem dX11_due_224 : decode cX11_due 224 = .ok (.getfield 151, 3) := by decide +kernel
theorem dX11_due_227 : decode cX11_due 227 = .ok (.iload_n 1, 1) := by decide +kernel
theorem dX11_due_228 : decode cX11_due 228 = .ok (.aload_n 0, 1) := by decide +kernel
theorem dX11_due_229 : decode cX11_due 229 = .ok (.getfield 207, 3) := by decide +kernel
theorem dX11_due_232 : decode cX11_due 232 = .ok (.aload_n 0, 1) := by decide +kernel
theorem dX11_due_233 : decode cX11_due 233 = .ok (.getfield 115, 3) := by decide +kernel
theorem dX11_due_236 : decode cX11_due 236 = .ok (.iload_n 1, 1) := by decide +kernel
theorem dX11_due_237 : decode cX11_due 237 = .ok (.iaload, 1) := by decide +kernel
theorem dX11_due_238 : decode cX11_due 238 = .ok (.iadd, 1) := by decide +kernel
theorem dX11_due_239 : decode cX11_due 239 = .ok (.iastore, 1) := by decide +kernel
theorem dX11_due_240 : decode cX11_due 240 = .ok (.return_, 1) := by decide +kernel
theorem dX11_doubles_0 : decode cX11_doubles 0 = .ok (.aload_n 0, 1) := by decide +kernel
theorem dX11_doubles_1 : decode cX11_doubles 1 = .ok (.getfield 115, 3) := by decide +kernel
theorem dX11_doubles_4 : decode cX11_doubles 4 = .ok (.iload_n 1, 1) := by decide +kernel
theorem dX11_doubles_5 : decode cX11_doubles 5 = .ok (.iconst 2, 1) := by decide +kernel
theorem dX11_doubles_6 : decode cX11_doubles 6 = .ok (.aload_n 0, 1) := by decide +kernel
theorem dX11_doubles_7 : decode cX11_doubles 7 = .ok (.getfield 115, 3) := by decide +kernel
theorem dX11_doubles_10 : decode cX11_doubles 10 = .ok (.iload_n 1, 1) := by decide +kernel
theorem dX11_doubles_11 : decode cX11_doubles 11 = .ok (.iaload, 1) := by decide +kernel
theorem dX11_doubles_12 : decode cX11_doubles 12 = .ok (.imul, 1) := by decide +kernel
theorem dX11_doubles_13 : decode cX11_doubles 13 = .ok (.ldc_w 293, 3) := by decide +kernel
theorem dX11_doubles_16 : decode cX11_doubles 16 = .ok (.if_icmp .le 9, 3) := by decide +kernel
theorem dX11_doubles_19 : decode cX11_doubles 19 = .ok (.ldc_w 293, 3) := by decide +kernel
theorem dX11_doubles_22 : decode cX11_doubles 22 = .ok (.goto 11, 3) := by decide +kernel
theorem dX11_doubles_25 : decode cX11_doubles 25 = .ok (.iconst 2, 1) := by decide +kernel
theorem dX11_doubles_26 : decode cX11_doubles 26 = .ok (.aload_n 0, 1) := by decide +kernel
theorem dX11_doubles_27 : decode cX11_doubles 27 = .ok (.getfield 115, 3) := by decide +kernel
theorem dX11_doubles_30 : decode cX11_doubles 30 = .ok (.iload_n 1, 1) := by decide +kernel
theorem dX11_doubles_31 : decode cX11_doubles 31 = .ok (.iaload, 1) := by decide +kernel
theorem dX11_doubles_32 : decode cX11_doubles 32 = .ok (.imul, 1) := by decide +kernel
theorem dX11_doubles_33 : decode cX11_doubles 33 = .ok (.iastore, 1) := by decide +kernel
theorem dX11_doubles_34 : decode cX11_doubles 34 = .ok (.return_, 1) := by decide +kernel
theorem dX11_puts_0 : decode cX11_puts 0 = .ok (.aload_n 0, 1) := by decide +kernel
theorem dX11_puts_1 : decode cX11_puts 1 = .ok (.getfield 201, 3) := by decide +kernel
theorem dX11_puts_4 : decode cX11_puts 4 = .ok (.istore 4, 2) := by decide +kernel
theorem dX11_puts_6 : decode cX11_puts 6 = .ok (.aload_n 0, 1) := by decide +kernel
theorem dX11_puts_7 : decode cX11_puts 7 = .ok (.dup, 1) := by decide +kernel
theorem dX11_puts_8 : decode cX11_puts 8 = .ok (.getfield 201, 3) := by decide +kernel
theorem dX11_puts_11 : decode cX11_puts 11 = .ok (.iconst 1, 1) := by decide +kernel
theorem dX11_puts_12 : decode cX11_puts 12 = .ok (.iadd, 1) := by decide +kernel
theorem dX11_puts_13 : decode cX11_puts 13 = .ok (.putfield 201, 3) := by decide +kernel
theorem dX11_puts_16 : decode cX11_puts 16 = .ok (.iconst 0, 1) := by decide +kernel
theorem dX11_puts_17 : decode cX11_puts 17 = .ok (.istore 5, 2) := by decide +kernel
theorem dX11_puts_19 : decode cX11_puts 19 = .ok (.iload 5, 2) := by decide +kernel
theorem dX11_puts_21 : decode cX11_puts 21 = .ok (.aload_n 0, 1) := by decide +kernel
theorem dX11_puts_22 : decode cX11_puts 22 = .ok (.getfield 204, 3) := by decide +kernel
theorem dX11_puts_25 : decode cX11_puts 25 = .ok (.if_icmp .ge 61, 3) := by decide +kernel
theorem dX11_puts_28 : decode cX11_puts 28 = .ok (.aload_n 0, 1) := by decide +kernel
theorem dX11_puts_29 : decode cX11_puts 29 = .ok (.getfield 64, 3) := by decide +kernel
theorem dX11_puts_32 : decode cX11_puts 32 = .ok (.iload 5, 2) := by decide +kernel
theorem dX11_puts_34 : decode cX11_puts 34 = .ok (.iaload, 1) := by decide +kernel
theorem dX11_puts_35 : decode cX11_puts 35 = .ok (.iload 4, 2) := by decide +kernel
theorem dX11_puts_37 : decode cX11_puts 37 = .ok (.if_icmp .eq 6, 3) := by decide +kernel
theorem dX11_puts_40 : decode cX11_puts 40 = .ok (.goto 40, 3) := by decide +kernel
theorem dX11_puts_43 : decode cX11_puts 43 = .ok (.aload_n 0, 1) := by decide +kernel
theorem dX11_puts_44 : decode cX11_puts 44 = .ok (.dup, 1) := by decide +kernel
theorem dX11_puts_45 : decode cX11_puts 45 = .ok (.getfield 204, 3) := by decide +kernel
theorem dX11_puts_48 : decode cX11_puts 48 = .ok (.iconst 1, 1) := by decide +kernel
theorem dX11_puts_49 : decode cX11_puts 49 = .ok (.isub, 1) := by decide +kernel
theorem dX11_puts_50 : decode cX11_puts 50 = .ok (.putfield 204, 3) := by decide +kernel
theorem dX11_puts_53 : decode cX11_puts 53 = .ok (.aload_n 0, 1) := by decide +kernel
theorem dX11_puts_54 : decode cX11_puts 54 = .ok (.getfield 64, 3) := by decide +kernel
theorem dX11_puts_57 : decode cX11_puts 57 = .ok (.iload 5, 2) := by decide +kernel
theorem dX11_puts_59 : decode cX11_puts 59 = .ok (.aload_n 0, 1) := by decide +kernel
theorem dX11_puts_60 : decode cX11_puts 60 = .ok (.getfield 64, 3) := by decide +kernel
theorem dX11_puts_63 : decode cX11_puts 63 = .ok (.aload_n 0, 1) := by decide +kernel
theorem dX11_puts_64 : decode cX11_puts 64 = .ok (.getfield 204, 3) := by decide +kernel
theorem dX11_puts_67 : decode cX11_puts 67 = .ok (.iaload, 1) := by decide +kernel
theorem dX11_puts_68 : decode cX11_puts 68 = .ok (.iastore, 1) := by decide +kernel
theorem dX11_puts_69 : decode cX11_puts 69 = .ok (.aload_n 0, 1) := by decide +kernel
theorem dX11_puts_70 : decode cX11_puts 70 = .ok (.dup, 1) := by decide +kernel
theorem dX11_puts_71 : decode cX11_puts 71 = .ok (.getfield 326, 3) := by decide +kernel
theorem dX11_puts_74 : decode cX11_puts 74 = .ok (.iconst 1, 1) := by decide +kernel
theorem dX11_puts_75 : decode cX11_puts 75 = .ok (.iadd, 1) := by decide +kernel
theorem dX11_puts_76 : decode cX11_puts 76 = .ok (.putfield 326, 3) := by decide +kernel
theorem dX11_puts_79 : decode cX11_puts 79 = .ok (.return_, 1) := by decide +kernel
theorem dX11_puts_80 : decode cX11_puts 80 = .ok (.iinc 5 1, 3) := by decide +kernel
theorem dX11_puts_83 : decode cX11_puts 83 = .ok (.goto (-64), 3) := by decide +kernel
theorem dX11_puts_86 : decode cX11_puts 86 = .ok (.aload_n 0, 1) := by decide +kernel
theorem dX11_puts_87 : decode cX11_puts 87 = .ok (.getfield 230, 3) := by decide +kernel
theorem dX11_puts_90 : decode cX11_puts 90 = .ok (.aload_n 0, 1) := by decide +kernel
theorem dX11_puts_91 : decode cX11_puts 91 = .ok (.getfield 13, 3) := by decide +kernel
theorem dX11_puts_94 : decode cX11_puts 94 = .ok (.if_icmp .le 14, 3) := by decide +kernel
theorem dX11_puts_97 : decode cX11_puts 97 = .ok (.aload_n 0, 1) := by decide +kernel
theorem dX11_puts_98 : decode cX11_puts 98 = .ok (.dup, 1) := by decide +kernel
theorem dX11_puts_99 : decode cX11_puts 99 = .ok (.getfield 329, 3) := by decide +kernel
theorem dX11_puts_102 : decode cX11_puts 102 = .ok (.iconst 1, 1) := by decide +kernel
theorem dX11_puts_103 : decode cX11_puts 103 = .ok (.iadd, 1) := by decide +kernel
theorem dX11_puts_104 : decode cX11_puts 104 = .ok (.putfield 329, 3) := by decide +kernel
theorem dX11_puts_107 : decode cX11_puts 107 = .ok (.return_, 1) := by decide +kernel
theorem dX11_puts_108 : decode cX11_puts 108 = .ok (.aload_n 0, 1) := by decide +kernel
theorem dX11_puts_109 : decode cX11_puts 109 = .ok (.getfield 22, 3) := by decide +kernel
theorem dX11_puts_112 : decode cX11_puts 112 = .ok (.aload_n 0, 1) := by decide +kernel
theorem dX11_puts_113 : decode cX11_puts 113 = .ok (.getfield 230, 3) := by decide +kernel
theorem dX11_puts_116 : decode cX11_puts 116 = .ok (.iload_n 1, 1) := by decide +kernel
theorem dX11_puts_117 : decode cX11_puts 117 = .ok (.iastore, 1) := by decide +kernel
theorem dX11_puts_118 : decode cX11_puts 118 = .ok (.aload_n 0, 1) := by decide +kernel
theorem dX11_puts_119 : decode cX11_puts 119 = .ok (.getfield 26, 3) := by decide +kernel
theorem dX11_puts_122 : decode cX11_puts 122 = .ok (.aload_n 0, 1) := by decide +kernel
theorem dX11_puts_123 : decode cX11_puts 123 = .ok (.getfield 230, 3) := by decide +kernel
theorem dX11_puts_126 : decode cX11_puts 126 = .ok (.iload_n 2, 1) := by decide +kernel
theorem dX11_puts_127 : decode cX11_puts 127 = .ok (.iastore, 1) := by decide +kernel
theorem dX11_puts_128 : decode cX11_puts 128 = .ok (.aload_n 0, 1) := by decide +kernel
theorem dX11_puts_129 : decode cX11_puts 129 = .ok (.getfield 29, 3) := by decide +kernel
theorem dX11_puts_132 : decode cX11_puts 132 = .ok (.aload_n 0, 1) := by decide +kernel
theorem dX11_puts_133 : decode cX11_puts 133 = .ok (.getfield 230, 3) := by decide +kernel
theorem dX11_puts_136 : decode cX11_puts 136 = .ok (.iload_n 3, 1) := by decide +kernel
theorem dX11_puts_137 : decode cX11_puts 137 = .ok (.bastore, 1) := by decide +kernel
theorem dX11_puts_138 : decode cX11_puts 138 = .ok (.aload_n 0, 1) := by decide +kernel
theorem dX11_puts_139 : decode cX11_puts 139 = .ok (.getfield 230, 3) := by decide +kernel
theorem dX11_puts_142 : decode cX11_puts 142 = .ok (.ifCond .ne 16, 3) := by decide +kernel
theorem dX11_puts_145 : decode cX11_puts 145 = .ok (.aload_n 0, 1) := by decide +kernel
theorem dX11_puts_146 : decode cX11_puts 146 = .ok (.aload_n 0, 1) := by decide +kernel
theorem dX11_puts_147 : decode cX11_puts 147 = .ok (.getfield 207, 3) := by decide +kernel
theorem dX11_puts_150 : decode cX11_puts 150 = .ok (.aload_n 0, 1) := by decide +kernel
theorem dX11_puts_151 : decode cX11_puts 151 = .ok (.getfield 7, 3) := by decide +kernel
theorem dX11_puts_154 : decode cX11_puts 154 = .ok (.iadd, 1) := by decide +kernel
theorem dX11_puts_155 : decode cX11_puts 155 = .ok (.putfield 233, 3) := by decide +kernel
theorem dX11_puts_158 : decode cX11_puts 158 = .ok (.aload_n 0, 1) := by decide +kernel
theorem dX11_puts_159 : decode cX11_puts 159 = .ok (.dup, 1) := by decide +kernel
theorem dX11_puts_160 : decode cX11_puts 160 = .ok (.getfield 230, 3) := by decide +kernel
theorem dX11_puts_163 : decode cX11_puts 163 = .ok (.iconst 1, 1) := by decide +kernel
theorem dX11_puts_164 : decode cX11_puts 164 = .ok (.iadd, 1) := by decide +kernel
theorem dX11_puts_165 : decode cX11_puts 165 = .ok (.putfield 230, 3) := by decide +kernel
theorem dX11_puts_168 : decode cX11_puts 168 = .ok (.return_, 1) := by decide +kernel
theorem dX11_sendsOne_0 : decode cX11_sendsOne 0 = .ok (.aload_n 0, 1) := by decide +kernel
theorem dX11_sendsOne_1 : decode cX11_sendsOne 1 = .ok (.iload_n 1, 1) := by decide +kernel
theorem dX11_sendsOne_2 : decode cX11_sendsOne 2 = .ok (.iload_n 2, 1) := by decide +kernel
theorem dX11_sendsOne_3 : decode cX11_sendsOne 3 = .ok (.iconst 0, 1) := by decide +kernel
theorem dX11_sendsOne_4 : decode cX11_sendsOne 4 = .ok (.invokevirtual 323, 3) := by decide +kernel
theorem dX11_sendsOne_7 : decode cX11_sendsOne 7 = .ok (.iload_n 2, 1) := by decide +kernel
theorem dX11_sendsOne_8 : decode cX11_sendsOne 8 = .ok (.aload_n 0, 1) := by decide +kernel
theorem dX11_sendsOne_9 : decode cX11_sendsOne 9 = .ok (.getfield 106, 3) := by decide +kernel
theorem dX11_sendsOne_12 : decode cX11_sendsOne 12 = .ok (.iload_n 1, 1) := by decide +kernel
theorem dX11_sendsOne_13 : decode cX11_sendsOne 13 = .ok (.iaload, 1) := by decide +kernel
theorem dX11_sendsOne_14 : decode cX11_sendsOne 14 = .ok (.if_icmp .ge 33, 3) := by decide +kernel
theorem dX11_sendsOne_17 : decode cX11_sendsOne 17 = .ok (.aload_n 0, 1) := by decide +kernel
theorem dX11_sendsOne_18 : decode cX11_sendsOne 18 = .ok (.getfield 145, 3) := by decide +kernel
theorem dX11_sendsOne_21 : decode cX11_sendsOne 21 = .ok (.iload_n 1, 1) := by decide +kernel
theorem dX11_sendsOne_22 : decode cX11_sendsOne 22 = .ok (.dup2, 1) := by decide +kernel
theorem dX11_sendsOne_23 : decode cX11_sendsOne 23 = .ok (.iaload, 1) := by decide +kernel
theorem dX11_sendsOne_24 : decode cX11_sendsOne 24 = .ok (.iconst 1, 1) := by decide +kernel
theorem dX11_sendsOne_25 : decode cX11_sendsOne 25 = .ok (.iadd, 1) := by decide +kernel
theorem dX11_sendsOne_26 : decode cX11_sendsOne 26 = .ok (.iastore, 1) := by decide +kernel
theorem dX11_sendsOne_27 : decode cX11_sendsOne 27 = .ok (.aload_n 0, 1) := by decide +kernel
theorem dX11_sendsOne_28 : decode cX11_sendsOne 28 = .ok (.getfield 175, 3) := by decide +kernel
theorem dX11_sendsOne_31 : decode cX11_sendsOne 31 = .ok (.iload_n 1, 1) := by decide +kernel
theorem dX11_sendsOne_32 : decode cX11_sendsOne 32 = .ok (.iaload, 1) := by decide +kernel
theorem dX11_sendsOne_33 : decode cX11_sendsOne 33 = .ok (.iload_n 2, 1) := by decide +kernel
theorem dX11_sendsOne_34 : decode cX11_sendsOne 34 = .ok (.if_icmp .ne 49, 3) := by decide +kernel
theorem dX11_sendsOne_37 : decode cX11_sendsOne 37 = .ok (.aload_n 0, 1) := by decide +kernel
theorem dX11_sendsOne_38 : decode cX11_sendsOne 38 = .ok (.getfield 175, 3) := by decide +kernel
theorem dX11_sendsOne_41 : decode cX11_sendsOne 41 = .ok (.iload_n 1, 1) := by decide +kernel
theorem dX11_sendsOne_42 : decode cX11_sendsOne 42 = .ok (.iconst (-1), 1) := by decide +kernel
theorem dX11_sendsOne_43 : decode cX11_sendsOne 43 = .ok (.iastore, 1) := by decide +kernel
theorem dX11_sendsOne_44 : decode cX11_sendsOne 44 = .ok (.goto 39, 3) := by decide +kernel
theorem dX11_sendsOne_47 : decode cX11_sendsOne 47 = .ok (.aload_n 0, 1) := by decide +kernel
theorem dX11_sendsOne_48 : decode cX11_sendsOne 48 = .ok (.getfield 106, 3) := by decide +kernel
theorem dX11_sendsOne_51 : decode cX11_sendsOne 51 = .ok (.iload_n 1, 1) := by decide +kernel
theorem dX11_sendsOne_52 : decode cX11_sendsOne 52 = .ok (.iload_n 2, 1) := by decide +kernel
theorem dX11_sendsOne_53 : decode cX11_sendsOne 53 = .ok (.iconst 1, 1) := by decide +kernel
theorem dX11_sendsOne_54 : decode cX11_sendsOne 54 = .ok (.iadd, 1) := by decide +kernel
theorem dX11_sendsOne_55 : decode cX11_sendsOne 55 = .ok (.iastore, 1) := by decide +kernel
theorem dX11_sendsOne_56 : decode cX11_sendsOne 56 = .ok (.aload_n 0, 1) := by decide +kernel
theorem dX11_sendsOne_57 : decode cX11_sendsOne 57 = .ok (.getfield 175, 3) := by decide +kernel
theorem dX11_sendsOne_60 : decode cX11_sendsOne 60 = .ok (.iload_n 1, 1) := by decide +kernel
theorem dX11_sendsOne_61 : decode cX11_sendsOne 61 = .ok (.iaload, 1) := by decide +kernel
theorem dX11_sendsOne_62 : decode cX11_sendsOne 62 = .ok (.iconst (-1), 1) := by decide +kernel
theorem dX11_sendsOne_63 : decode cX11_sendsOne 63 = .ok (.if_icmp .ne 20, 3) := by decide +kernel
theorem dX11_sendsOne_66 : decode cX11_sendsOne 66 = .ok (.aload_n 0, 1) := by decide +kernel
theorem dX11_sendsOne_67 : decode cX11_sendsOne 67 = .ok (.getfield 175, 3) := by decide +kernel
theorem dX11_sendsOne_70 : decode cX11_sendsOne 70 = .ok (.iload_n 1, 1) := by decide +kernel
theorem dX11_sendsOne_71 : decode cX11_sendsOne 71 = .ok (.iload_n 2, 1) := by decide +kernel
theorem dX11_sendsOne_72 : decode cX11_sendsOne 72 = .ok (.iastore, 1) := by decide +kernel
theorem dX11_sendsOne_73 : decode cX11_sendsOne 73 = .ok (.aload_n 0, 1) := by decide +kernel
theorem dX11_sendsOne_74 : decode cX11_sendsOne 74 = .ok (.getfield 178, 3) := by decide +kernel
theorem dX11_sendsOne_77 : decode cX11_sendsOne 77 = .ok (.iload_n 1, 1) := by decide +kernel
theorem dX11_sendsOne_78 : decode cX11_sendsOne 78 = .ok (.aload_n 0, 1) := by decide +kernel
theorem dX11_sendsOne_79 : decode cX11_sendsOne 79 = .ok (.getfield 207, 3) := by decide +kernel
theorem dX11_sendsOne_82 : decode cX11_sendsOne 82 = .ok (.iastore, 1) := by decide +kernel
theorem dX11_sendsOne_83 : decode cX11_sendsOne 83 = .ok (.aload_n 0, 1) := by decide +kernel
theorem dX11_sendsOne_84 : decode cX11_sendsOne 84 = .ok (.getfield 151, 3) := by decide +kernel
theorem dX11_sendsOne_87 : decode cX11_sendsOne 87 = .ok (.iload_n 1, 1) := by decide +kernel
theorem dX11_sendsOne_88 : decode cX11_sendsOne 88 = .ok (.iaload, 1) := by decide +kernel
theorem dX11_sendsOne_89 : decode cX11_sendsOne 89 = .ok (.iconst (-1), 1) := by decide +kernel
theorem dX11_sendsOne_90 : decode cX11_sendsOne 90 = .ok (.if_icmp .ne 20, 3) := by decide +kernel
theorem dX11_sendsOne_93 : decode cX11_sendsOne 93 = .ok (.aload_n 0, 1) := by decide +kernel
theorem dX11_sendsOne_94 : decode cX11_sendsOne 94 = .ok (.getfield 151, 3) := by decide +kernel
theorem dX11_sendsOne_97 : decode cX11_sendsOne 97 = .ok (.iload_n 1, 1) := by decide +kernel
theorem dX11_sendsOne_98 : decode cX11_sendsOne 98 = .ok (.aload_n 0, 1) := by decide +kernel
theorem dX11_sendsOne_99 : decode cX11_sendsOne 99 = .ok (.getfield 207, 3) := by decide +kernel
theorem dX11_sendsOne_102 : decode cX11_sendsOne 102 = .ok (.aload_n 0, 1) := by decide +kernel
theorem dX11_sendsOne_103 : decode cX11_sendsOne 103 = .ok (.getfield 115, 3) := by decide +kernel
theorem dX11_sendsOne_106 : decode cX11_sendsOne 106 = .ok (.iload_n 1, 1) := by decide +kernel
theorem dX11_sendsOne_107 : decode cX11_sendsOne 107 = .ok (.iaload, 1) := by decide +kernel
theorem dX11_sendsOne_108 : decode cX11_sendsOne 108 = .ok (.iadd, 1) := by decide +kernel
theorem dX11_sendsOne_109 : decode cX11_sendsOne 109 = .ok (.iastore, 1) := by decide +kernel
theorem dX11_sendsOne_110 : decode cX11_sendsOne 110 = .ok (.return_, 1) := by decide +kernel
theorem dX11_sendsAgain_0 : decode cX11_sendsAgain 0 = .ok (.aload_n 0, 1) := by decide +kernel
theorem dX11_sendsAgain_1 : decode cX11_sendsAgain 1 = .ok (.getfield 184, 3) := by decide +kernel
theorem dX11_sendsAgain_4 : decode cX11_sendsAgain 4 = .ok (.sipush 512, 3) := by decide +kernel
theorem dX11_sendsAgain_7 : decode cX11_sendsAgain 7 = .ok (.iload_n 1, 1) := by decide +kernel
theorem dX11_sendsAgain_8 : decode cX11_sendsAgain 8 = .ok (.imul, 1) := by decide +kernel
theorem dX11_sendsAgain_9 : decode cX11_sendsAgain 9 = .ok (.iload_n 2, 1) := by decide +kernel
theorem dX11_sendsAgain_10 : decode cX11_sendsAgain 10 = .ok (.sipush 512, 3) := by decide +kernel
theorem dX11_sendsAgain_13 : decode cX11_sendsAgain 13 = .ok (.irem, 1) := by decide +kernel
theorem dX11_sendsAgain_14 : decode cX11_sendsAgain 14 = .ok (.iadd, 1) := by decide +kernel
theorem dX11_sendsAgain_15 : decode cX11_sendsAgain 15 = .ok (.iconst 1, 1) := by decide +kernel
theorem dX11_sendsAgain_16 : decode cX11_sendsAgain 16 = .ok (.bastore, 1) := by decide +kernel
theorem dX11_sendsAgain_17 : decode cX11_sendsAgain 17 = .ok (.aload_n 0, 1) := by decide +kernel
theorem dX11_sendsAgain_18 : decode cX11_sendsAgain 18 = .ok (.iload_n 1, 1) := by decide +kernel
theorem dX11_sendsAgain_19 : decode cX11_sendsAgain 19 = .ok (.iload_n 2, 1) := by decide +kernel
theorem dX11_sendsAgain_20 : decode cX11_sendsAgain 20 = .ok (.invokevirtual 332, 3) := by decide +kernel
theorem dX11_sendsAgain_23 : decode cX11_sendsAgain 23 = .ok (.return_, 1) := by decide +kernel
theorem dX11_pipe_0 : decode cX11_pipe 0 = .ok (.iconst 0, 1) := by decide +kernel
theorem dX11_pipe_1 : decode cX11_pipe 1 = .ok (.istore_n 2, 1) := by decide +kernel
theorem dX11_pipe_2 : decode cX11_pipe 2 = .ok (.iconst 0, 1) := by decide +kernel
theorem dX11_pipe_3 : decode cX11_pipe 3 = .ok (.istore_n 3, 1) := by decide +kernel
theorem dX11_pipe_4 : decode cX11_pipe 4 = .ok (.aload_n 0, 1) := by decide +kernel
theorem dX11_pipe_5 : decode cX11_pipe 5 = .ok (.iconst (-1), 1) := by decide +kernel
theorem dX11_pipe_6 : decode cX11_pipe 6 = .ok (.putfield 335, 3) := by decide +kernel
theorem dX11_pipe_9 : decode cX11_pipe 9 = .ok (.aload_n 0, 1) := by decide +kernel
theorem dX11_pipe_10 : decode cX11_pipe 10 = .ok (.getfield 106, 3) := by decide +kernel
theorem dX11_pipe_13 : decode cX11_pipe 13 = .ok (.iload_n 1, 1) := by decide +kernel
theorem dX11_pipe_14 : decode cX11_pipe 14 = .ok (.iaload, 1) := by decide +kernel
theorem dX11_pipe_15 : decode cX11_pipe 15 = .ok (.iconst 1, 1) := by decide +kernel
theorem dX11_pipe_16 : decode cX11_pipe 16 = .ok (.isub, 1) := by decide +kernel
theorem dX11_pipe_17 : decode cX11_pipe 17 = .ok (.istore 4, 2) := by decide +kernel
theorem dX11_pipe_19 : decode cX11_pipe 19 = .ok (.iload 4, 2) := by decide +kernel
theorem dX11_pipe_21 : decode cX11_pipe 21 = .ok (.aload_n 0, 1) := by decide +kernel
theorem dX11_pipe_22 : decode cX11_pipe 22 = .ok (.getfield 100, 3) := by decide +kernel
theorem dX11_pipe_25 : decode cX11_pipe 25 = .ok (.iload_n 1, 1) := by decide +kernel
theorem dX11_pipe_26 : decode cX11_pipe 26 = .ok (.iaload, 1) := by decide +kernel
theorem dX11_pipe_27 : decode cX11_pipe 27 = .ok (.if_icmp .lt 131, 3) := by decide +kernel
theorem dX11_pipe_30 : decode cX11_pipe 30 = .ok (.aload_n 0, 1) := by decide +kernel
theorem dX11_pipe_31 : decode cX11_pipe 31 = .ok (.getfield 181, 3) := by decide +kernel
theorem dX11_pipe_34 : decode cX11_pipe 34 = .ok (.sipush 200, 3) := by decide +kernel
theorem dX11_pipe_37 : decode cX11_pipe 37 = .ok (.iload_n 1, 1) := by decide +kernel
theorem dX11_pipe_38 : decode cX11_pipe 38 = .ok (.imul, 1) := by decide +kernel
theorem dX11_pipe_39 : decode cX11_pipe 39 = .ok (.iload 4, 2) := by decide +kernel
theorem dX11_pipe_41 : decode cX11_pipe 41 = .ok (.iadd, 1) := by decide +kernel
theorem dX11_pipe_42 : decode cX11_pipe 42 = .ok (.aload_n 0, 1) := by decide +kernel
theorem dX11_pipe_43 : decode cX11_pipe 43 = .ok (.getfield 100, 3) := by decide +kernel
theorem dX11_pipe_46 : decode cX11_pipe 46 = .ok (.iload_n 1, 1) := by decide +kernel
theorem dX11_pipe_47 : decode cX11_pipe 47 = .ok (.iaload, 1) := by decide +kernel
theorem dX11_pipe_48 : decode cX11_pipe 48 = .ok (.isub, 1) := by decide +kernel
theorem dX11_pipe_49 : decode cX11_pipe 49 = .ok (.baload, 1) := by decide +kernel
theorem dX11_pipe_50 : decode cX11_pipe 50 = .ok (.ifCond .eq 9, 3) := by decide +kernel
theorem dX11_pipe_53 : decode cX11_pipe 53 = .ok (.iinc 3 1, 3) := by decide +kernel
theorem dX11_pipe_56 : decode cX11_pipe 56 = .ok (.goto 96, 3) := by decide +kernel
theorem dX11_pipe_59 : decode cX11_pipe 59 = .ok (.iload 4, 2) := by decide +kernel
theorem dX11_pipe_61 : decode cX11_pipe 61 = .ok (.aload_n 0, 1) := by decide +kernel
theorem dX11_pipe_62 : decode cX11_pipe 62 = .ok (.getfield 136, 3) := by decide +kernel
theorem dX11_pipe_65 : decode cX11_pipe 65 = .ok (.iload_n 1, 1) := by decide +kernel
theorem dX11_pipe_66 : decode cX11_pipe 66 = .ok (.iaload, 1) := by decide +kernel
theorem dX11_pipe_67 : decode cX11_pipe 67 = .ok (.if_icmp .eq 8, 3) := by decide +kernel
theorem dX11_pipe_70 : decode cX11_pipe 70 = .ok (.iload_n 3, 1) := by decide +kernel
theorem dX11_pipe_71 : decode cX11_pipe 71 = .ok (.iconst 3, 1) := by decide +kernel
theorem dX11_pipe_72 : decode cX11_pipe 72 = .ok (.if_icmp .lt 7, 3) := by decide +kernel
theorem dX11_pipe_75 : decode cX11_pipe 75 = .ok (.iconst 1, 1) := by decide +kernel
theorem dX11_pipe_76 : decode cX11_pipe 76 = .ok (.goto 4, 3) := by decide +kernel
theorem dX11_pipe_79 : decode cX11_pipe 79 = .ok (.iconst 0, 1) := by decide +kernel
theorem dX11_pipe_80 : decode cX11_pipe 80 = .ok (.istore 5, 2) := by decide +kernel
theorem dX11_pipe_82 : decode cX11_pipe 82 = .ok (.aload_n 0, 1) := by decide +kernel
theorem dX11_pipe_83 : decode cX11_pipe 83 = .ok (.getfield 184, 3) := by decide +kernel
theorem dX11_pipe_86 : decode cX11_pipe 86 = .ok (.sipush 512, 3) := by decide +kernel
theorem dX11_pipe_89 : decode cX11_pipe 89 = .ok (.iload_n 1, 1) := by decide +kernel
theorem dX11_pipe_90 : decode cX11_pipe 90 = .ok (.imul, 1) := by decide +kernel
theorem dX11_pipe_91 : decode cX11_pipe 91 = .ok (.iload 4, 2) := by decide +kernel
theorem dX11_pipe_93 : decode cX11_pipe 93 = .ok (.sipush 512, 3) := by decide +kernel
theorem dX11_pipe_96 : decode cX11_pipe 96 = .ok (.irem, 1) := by decide +kernel
theorem dX11_pipe_97 : decode cX11_pipe 97 = .ok (.iadd, 1) := by decide +kernel
theorem dX11_pipe_98 : decode cX11_pipe 98 = .ok (.baload, 1) := by decide +kernel
theorem dX11_pipe_99 : decode cX11_pipe 99 = .ok (.istore 6, 2) := by decide +kernel
theorem dX11_pipe_101 : decode cX11_pipe 101 = .ok (.iload_n 2, 1) := by decide +kernel
theorem dX11_pipe_102 : decode cX11_pipe 102 = .ok (.iload 4, 2) := by decide +kernel
theorem dX11_pipe_104 : decode cX11_pipe 104 = .ok (.aload_n 0, 1) := by decide +kernel
theorem dX11_pipe_105 : decode cX11_pipe 105 = .ok (.getfield 103, 3) := by decide +kernel
theorem dX11_pipe_108 : decode cX11_pipe 108 = .ok (.iload_n 1, 1) := by decide +kernel
theorem dX11_pipe_109 : decode cX11_pipe 109 = .ok (.iaload, 1) := by decide +kernel
theorem dX11_pipe_110 : decode cX11_pipe 110 = .ok (.if_icmp .ge 12, 3) := by decide +kernel
theorem dX11_pipe_113 : decode cX11_pipe 113 = .ok (.iload 5, 2) := by decide +kernel
theorem dX11_pipe_115 : decode cX11_pipe 115 = .ok (.ifCond .ne 7, 3) := by decide +kernel
theorem dX11_pipe_118 : decode cX11_pipe 118 = .ok (.iconst 1, 1) := by decide +kernel
theorem dX11_pipe_119 : decode cX11_pipe 119 = .ok (.goto 4, 3) := by decide +kernel
theorem dX11_pipe_122 : decode cX11_pipe 122 = .ok (.iconst 0, 1) := by decide +kernel
theorem dX11_pipe_123 : decode cX11_pipe 123 = .ok (.iload 6, 2) := by decide +kernel
theorem dX11_pipe_125 : decode cX11_pipe 125 = .ok (.ifCond .eq 7, 3) := by decide +kernel
theorem dX11_pipe_128 : decode cX11_pipe 128 = .ok (.iconst 1, 1) := by decide +kernel
theorem dX11_pipe_129 : decode cX11_pipe 129 = .ok (.goto 4, 3) := by decide +kernel
theorem dX11_pipe_132 : decode cX11_pipe 132 = .ok (.iconst 0, 1) := by decide +kernel
theorem dX11_pipe_133 : decode cX11_pipe 133 = .ok (.iadd, 1) := by decide +kernel
theorem dX11_pipe_134 : decode cX11_pipe 134 = .ok (.iadd, 1) := by decide +kernel
theorem dX11_pipe_135 : decode cX11_pipe 135 = .ok (.istore_n 2, 1) := by decide +kernel
theorem dX11_pipe_136 : decode cX11_pipe 136 = .ok (.iload 5, 2) := by decide +kernel
theorem dX11_pipe_138 : decode cX11_pipe 138 = .ok (.ifCond .eq 14, 3) := by decide +kernel
theorem dX11_pipe_141 : decode cX11_pipe 141 = .ok (.iload 6, 2) := by decide +kernel
theorem dX11_pipe_143 : decode cX11_pipe 143 = .ok (.ifCond .ne 9, 3) := by decide +kernel
theorem dX11_pipe_146 : decode cX11_pipe 146 = .ok (.aload_n 0, 1) := by decide +kernel
theorem dX11_pipe_147 : decode cX11_pipe 147 = .ok (.iload 4, 2) := by decide +kernel
theorem dX11_pipe_149 : decode cX11_pipe 149 = .ok (.putfield 335, 3) := by decide +kernel
theorem dX11_pipe_152 : decode cX11_pipe 152 = .ok (.iinc 4 (-1), 3) := by decide +kernel
theorem dX11_pipe_155 : decode cX11_pipe 155 = .ok (.goto (-136), 3) := by decide +kernel
theorem dX11_pipe_158 : decode cX11_pipe 158 = .ok (.iload_n 2, 1) := by decide +kernel
theorem dX11_pipe_159 : decode cX11_pipe 159 = .ok (.ireturn, 1) := by decide +kernel
theorem dX11_out_0 : decode cX11_out 0 = .ok (.aload_n 0, 1) := by decide +kernel
theorem dX11_out_1 : decode cX11_out 1 = .ok (.getfield 94, 3) := by decide +kernel
theorem dX11_out_4 : decode cX11_out 4 = .ok (.iload_n 1, 1) := by decide +kernel
theorem dX11_out_5 : decode cX11_out 5 = .ok (.iaload, 1) := by decide +kernel
theorem dX11_out_6 : decode cX11_out 6 = .ok (.iconst 3, 1) := by decide +kernel
theorem dX11_out_7 : decode cX11_out 7 = .ok (.if_icmp .ne 20, 3) := by decide +kernel
theorem dX11_out_10 : decode cX11_out 10 = .ok (.aload_n 0, 1) := by decide +kernel
theorem dX11_out_11 : decode cX11_out 11 = .ok (.getfield 130, 3) := by decide +kernel
theorem dX11_out_14 : decode cX11_out 14 = .ok (.iload_n 1, 1) := by decide +kernel
theorem dX11_out_15 : decode cX11_out 15 = .ok (.baload, 1) := by decide +kernel
theorem dX11_out_16 : decode cX11_out 16 = .ok (.ifCond .eq 11, 3) := by decide +kernel
theorem dX11_out_19 : decode cX11_out 19 = .ok (.aload_n 0, 1) := by decide +kernel
theorem dX11_out_20 : decode cX11_out 20 = .ok (.iload_n 1, 1) := by decide +kernel
theorem dX11_out_21 : decode cX11_out 21 = .ok (.invokevirtual 338, 3) := by decide +kernel
theorem dX11_out_24 : decode cX11_out 24 = .ok (.goto 16, 3) := by decide +kernel
theorem dX11_out_27 : decode cX11_out 27 = .ok (.aload_n 0, 1) := by decide +kernel
theorem dX11_out_28 : decode cX11_out 28 = .ok (.getfield 103, 3) := by decide +kernel
theorem dX11_out_31 : decode cX11_out 31 = .ok (.iload_n 1, 1) := by decide +kernel
theorem dX11_out_32 : decode cX11_out 32 = .ok (.iaload, 1) := by decide +kernel
theorem dX11_out_33 : decode cX11_out 33 = .ok (.aload_n 0, 1) := by decide +kernel
theorem dX11_out_34 : decode cX11_out 34 = .ok (.getfield 100, 3) := by decide +kernel
theorem dX11_out_37 : decode cX11_out 37 = .ok (.iload_n 1, 1) := by decide +kernel
theorem dX11_out_38 : decode cX11_out 38 = .ok (.iaload, 1) := by decide +kernel
theorem dX11_out_39 : decode cX11_out 39 = .ok (.isub, 1) := by decide +kernel
theorem dX11_out_40 : decode cX11_out 40 = .ok (.ireturn, 1) := by decide +kernel
theorem dX11_mayNext_0 : decode cX11_mayNext 0 = .ok (.aload_n 0, 1) := by decide +kernel
theorem dX11_mayNext_1 : decode cX11_mayNext 1 = .ok (.getfield 103, 3) := by decide +kernel
theorem dX11_mayNext_4 : decode cX11_mayNext 4 = .ok (.iload_n 1, 1) := by decide +kernel
theorem dX11_mayNext_5 : decode cX11_mayNext 5 = .ok (.iaload, 1) := by decide +kernel
theorem dX11_mayNext_6 : decode cX11_mayNext 6 = .ok (.aload_n 0, 1) := by decide +kernel
theorem dX11_mayNext_7 : decode cX11_mayNext 7 = .ok (.getfield 97, 3) := by decide +kernel
theorem dX11_mayNext_10 : decode cX11_mayNext 10 = .ok (.iload_n 1, 1) := by decide +kernel
theorem dX11_mayNext_11 : decode cX11_mayNext 11 = .ok (.iaload, 1) := by decide +kernel
theorem dX11_mayNext_12 : decode cX11_mayNext 12 = .ok (.if_icmp .ge 29, 3) := by decide +kernel
theorem dX11_mayNext_15 : decode cX11_mayNext 15 = .ok (.aload_n 0, 1) := by decide +kernel
theorem dX11_mayNext_16 : decode cX11_mayNext 16 = .ok (.getfield 103, 3) := by decide +kernel
theorem dX11_mayNext_19 : decode cX11_mayNext 19 = .ok (.iload_n 1, 1) := by decide +kernel
theorem dX11_mayNext_20 : decode cX11_mayNext 20 = .ok (.iaload, 1) := by decide +kernel
theorem dX11_mayNext_21 : decode cX11_mayNext 21 = .ok (.aload_n 0, 1) := by decide +kernel
theorem dX11_mayNext_22 : decode cX11_mayNext 22 = .ok (.getfield 100, 3) := by decide +kernel
theorem dX11_mayNext_25 : decode cX11_mayNext 25 = .ok (.iload_n 1, 1) := by decide +kernel
theorem dX11_mayNext_26 : decode cX11_mayNext 26 = .ok (.iaload, 1) := by decide +kernel
theorem dX11_mayNext_27 : decode cX11_mayNext 27 = .ok (.aload_n 0, 1) := by decide +kernel
theorem dX11_mayNext_28 : decode cX11_mayNext 28 = .ok (.getfield 148, 3) := by decide +kernel
theorem dX11_mayNext_31 : decode cX11_mayNext 31 = .ok (.iload_n 1, 1) := by decide +kernel
theorem dX11_mayNext_32 : decode cX11_mayNext 32 = .ok (.iaload, 1) := by decide +kernel
theorem dX11_mayNext_33 : decode cX11_mayNext 33 = .ok (.iadd, 1) := by decide +kernel
theorem dX11_mayNext_34 : decode cX11_mayNext 34 = .ok (.if_icmp .ge 7, 3) := by decide +kernel
theorem dX11_mayNext_37 : decode cX11_mayNext 37 = .ok (.iconst 1, 1) := by decide +kernel
theorem dX11_mayNext_38 : decode cX11_mayNext 38 = .ok (.goto 4, 3) := by decide +kernel
theorem dX11_mayNext_41 : decode cX11_mayNext 41 = .ok (.iconst 0, 1) := by decide +kernel
theorem dX11_mayNext_42 : decode cX11_mayNext 42 = .ok (.ireturn, 1) := by decide +kernel
theorem dX11_sends_0 : decode cX11_sends 0 = .ok (.aload_n 0, 1) := by decide +kernel
theorem dX11_sends_1 : decode cX11_sends 1 = .ok (.iload_n 1, 1) := by decide +kernel
theorem dX11_sends_2 : decode cX11_sends 2 = .ok (.invokevirtual 341, 3) := by decide +kernel
theorem dX11_sends_5 : decode cX11_sends 5 = .ok (.aload_n 0, 1) := by decide +kernel
theorem dX11_sends_6 : decode cX11_sends 6 = .ok (.getfield 109, 3) := by decide +kernel
theorem dX11_sends_9 : decode cX11_sends 9 = .ok (.iload_n 1, 1) := by decide +kernel
theorem dX11_sends_10 : decode cX11_sends 10 = .ok (.iaload, 1) := by decide +kernel
theorem dX11_sends_11 : decode cX11_sends 11 = .ok (.sipush 1024, 3) := by decide +kernel
theorem dX11_sends_14 : decode cX11_sends 14 = .ok (.idiv, 1) := by decide +kernel
theorem dX11_sends_15 : decode cX11_sends 15 = .ok (.if_icmp .ge 77, 3) := by decide +kernel
theorem dX11_sends_18 : decode cX11_sends 18 = .ok (.aload_n 0, 1) := by decide +kernel
theorem dX11_sends_19 : decode cX11_sends 19 = .ok (.getfield 94, 3) := by decide +kernel
theorem dX11_sends_22 : decode cX11_sends 22 = .ok (.iload_n 1, 1) := by decide +kernel
theorem dX11_sends_23 : decode cX11_sends 23 = .ok (.iaload, 1) := by decide +kernel
theorem dX11_sends_24 : decode cX11_sends 24 = .ok (.iconst 3, 1) := by decide +kernel
theorem dX11_sends_25 : decode cX11_sends 25 = .ok (.if_icmp .ne 32, 3) := by decide +kernel
theorem dX11_sends_28 : decode cX11_sends 28 = .ok (.aload_n 0, 1) := by decide +kernel
theorem dX11_sends_29 : decode cX11_sends 29 = .ok (.getfield 130, 3) := by decide +kernel
theorem dX11_sends_32 : decode cX11_sends 32 = .ok (.iload_n 1, 1) := by decide +kernel
theorem dX11_sends_33 : decode cX11_sends 33 = .ok (.baload, 1) := by decide +kernel
theorem dX11_sends_34 : decode cX11_sends 34 = .ok (.ifCond .eq 23, 3) := by decide +kernel
theorem dX11_sends_37 : decode cX11_sends 37 = .ok (.aload_n 0, 1) := by decide +kernel
theorem dX11_sends_38 : decode cX11_sends 38 = .ok (.getfield 335, 3) := by decide +kernel
theorem dX11_sends_41 : decode cX11_sends 41 = .ok (.iconst (-1), 1) := by decide +kernel
theorem dX11_sends_42 : decode cX11_sends 42 = .ok (.if_icmp .eq 15, 3) := by decide +kernel
theorem dX11_sends_45 : decode cX11_sends 45 = .ok (.aload_n 0, 1) := by decide +kernel
theorem dX11_sends_46 : decode cX11_sends 46 = .ok (.iload_n 1, 1) := by decide +kernel
theorem dX11_sends_47 : decode cX11_sends 47 = .ok (.aload_n 0, 1) := by decide +kernel
theorem dX11_sends_48 : decode cX11_sends 48 = .ok (.getfield 335, 3) := by decide +kernel
theorem dX11_sends_51 : decode cX11_sends 51 = .ok (.invokevirtual 301, 3) := by decide +kernel
theorem dX11_sends_54 : decode cX11_sends 54 = .ok (.goto (-54), 3) := by decide +kernel
theorem dX11_sends_57 : decode cX11_sends 57 = .ok (.aload_n 0, 1) := by decide +kernel
theorem dX11_sends_58 : decode cX11_sends 58 = .ok (.iload_n 1, 1) := by decide +kernel
theorem dX11_sends_59 : decode cX11_sends 59 = .ok (.invokevirtual 344, 3) := by decide +kernel
theorem dX11_sends_62 : decode cX11_sends 62 = .ok (.ifCond .ne 6, 3) := by decide +kernel
theorem dX11_sends_65 : decode cX11_sends 65 = .ok (.goto 27, 3) := by decide +kernel
theorem dX11_sends_68 : decode cX11_sends 68 = .ok (.aload_n 0, 1) := by decide +kernel
theorem dX11_sends_69 : decode cX11_sends 69 = .ok (.iload_n 1, 1) := by decide +kernel
theorem dX11_sends_70 : decode cX11_sends 70 = .ok (.aload_n 0, 1) := by decide +kernel
theorem dX11_sends_71 : decode cX11_sends 71 = .ok (.getfield 103, 3) := by decide +kernel
theorem dX11_sends_74 : decode cX11_sends 74 = .ok (.iload_n 1, 1) := by decide +kernel
theorem dX11_sends_75 : decode cX11_sends 75 = .ok (.iaload, 1) := by decide +kernel
theorem dX11_sends_76 : decode cX11_sends 76 = .ok (.invokevirtual 332, 3) := by decide +kernel
theorem dX11_sends_79 : decode cX11_sends 79 = .ok (.aload_n 0, 1) := by decide +kernel
theorem dX11_sends_80 : decode cX11_sends 80 = .ok (.getfield 103, 3) := by decide +kernel
theorem dX11_sends_83 : decode cX11_sends 83 = .ok (.iload_n 1, 1) := by decide +kernel
theorem dX11_sends_84 : decode cX11_sends 84 = .ok (.dup2, 1) := by decide +kernel
theorem dX11_sends_85 : decode cX11_sends 85 = .ok (.iaload, 1) := by decide +kernel
theorem dX11_sends_86 : decode cX11_sends 86 = .ok (.iconst 1, 1) := by decide +kernel
theorem dX11_sends_87 : decode cX11_sends 87 = .ok (.iadd, 1) := by decide +kernel
theorem dX11_sends_88 : decode cX11_sends 88 = .ok (.iastore, 1) := by decide +kernel
theorem dX11_sends_89 : decode cX11_sends 89 = .ok (.goto (-89), 3) := by decide +kernel
theorem dX11_sends_92 : decode cX11_sends 92 = .ok (.aload_n 0, 1) := by decide +kernel
theorem dX11_sends_93 : decode cX11_sends 93 = .ok (.getfield 148, 3) := by decide +kernel
theorem dX11_sends_96 : decode cX11_sends 96 = .ok (.iload_n 1, 1) := by decide +kernel
theorem dX11_sends_97 : decode cX11_sends 97 = .ok (.iaload, 1) := by decide +kernel
theorem dX11_sends_98 : decode cX11_sends 98 = .ok (.ifCond .ne 60, 3) := by decide +kernel
theorem dX11_sends_101 : decode cX11_sends 101 = .ok (.aload_n 0, 1) := by decide +kernel
theorem dX11_sends_102 : decode cX11_sends 102 = .ok (.getfield 103, 3) := by decide +kernel
theorem dX11_sends_105 : decode cX11_sends 105 = .ok (.iload_n 1, 1) := by decide +kernel
theorem dX11_sends_106 : decode cX11_sends 106 = .ok (.iaload, 1) := by decide +kernel
theorem dX11_sends_107 : decode cX11_sends 107 = .ok (.aload_n 0, 1) := by decide +kernel
theorem dX11_sends_108 : decode cX11_sends 108 = .ok (.getfield 100, 3) := by decide +kernel
theorem dX11_sends_111 : decode cX11_sends 111 = .ok (.iload_n 1, 1) := by decide +kernel
theorem dX11_sends_112 : decode cX11_sends 112 = .ok (.iaload, 1) := by decide +kernel
theorem dX11_sends_113 : decode cX11_sends 113 = .ok (.if_icmp .ne 45, 3) := by decide +kernel
theorem dX11_sends_116 : decode cX11_sends 116 = .ok (.aload_n 0, 1) := by decide +kernel
theorem dX11_sends_117 : decode cX11_sends 117 = .ok (.getfield 103, 3) := by decide +kernel
theorem dX11_sends_120 : decode cX11_sends 120 = .ok (.iload_n 1, 1) := by decide +kernel
theorem dX11_sends_121 : decode cX11_sends 121 = .ok (.iaload, 1) := by decide +kernel
theorem dX11_sends_122 : decode cX11_sends 122 = .ok (.aload_n 0, 1) := by decide +kernel
theorem dX11_sends_123 : decode cX11_sends 123 = .ok (.getfield 97, 3) := by decide +kernel
theorem dX11_sends_126 : decode cX11_sends 126 = .ok (.iload_n 1, 1) := by decide +kernel
theorem dX11_sends_127 : decode cX11_sends 127 = .ok (.iaload, 1) := by decide +kernel
theorem dX11_sends_128 : decode cX11_sends 128 = .ok (.if_icmp .ge 30, 3) := by decide +kernel
theorem dX11_sends_131 : decode cX11_sends 131 = .ok (.aload_n 0, 1) := by decide +kernel
theorem dX11_sends_132 : decode cX11_sends 132 = .ok (.getfield 151, 3) := by decide +kernel
theorem dX11_sends_135 : decode cX11_sends 135 = .ok (.iload_n 1, 1) := by decide +kernel
theorem dX11_sends_136 : decode cX11_sends 136 = .ok (.iaload, 1) := by decide +kernel
theorem dX11_sends_137 : decode cX11_sends 137 = .ok (.iconst (-1), 1) := by decide +kernel
theorem dX11_sends_138 : decode cX11_sends 138 = .ok (.if_icmp .ne 20, 3) := by decide +kernel
theorem dX11_sends_141 : decode cX11_sends 141 = .ok (.aload_n 0, 1) := by decide +kernel
theorem dX11_sends_142 : decode cX11_sends 142 = .ok (.getfield 151, 3) := by decide +kernel
theorem dX11_sends_145 : decode cX11_sends 145 = .ok (.iload_n 1, 1) := by decide +kernel
theorem dX11_sends_146 : decode cX11_sends 146 = .ok (.aload_n 0, 1) := by decide +kernel
theorem dX11_sends_147 : decode cX11_sends 147 = .ok (.getfield 207, 3) := by decide +kernel
theorem dX11_sends_150 : decode cX11_sends 150 = .ok (.aload_n 0, 1) := by decide +kernel
theorem dX11_sends_151 : decode cX11_sends 151 = .ok (.getfield 115, 3) := by decide +kernel
theorem dX11_sends_154 : decode cX11_sends 154 = .ok (.iload_n 1, 1) := by decide +kernel
theorem dX11_sends_155 : decode cX11_sends 155 = .ok (.iaload, 1) := by decide +kernel
theorem dX11_sends_156 : decode cX11_sends 156 = .ok (.iadd, 1) := by decide +kernel
theorem dX11_sends_157 : decode cX11_sends 157 = .ok (.iastore, 1) := by decide +kernel
theorem dX11_sends_158 : decode cX11_sends 158 = .ok (.return_, 1) := by decide +kernel
theorem dX11_sender_0 : decode cX11_sender 0 = .ok (.aload_n 0, 1) := by decide +kernel
theorem dX11_sender_1 : decode cX11_sender 1 = .ok (.iload_n 1, 1) := by decide +kernel
theorem dX11_sender_2 : decode cX11_sender 2 = .ok (.invokevirtual 195, 3) := by decide +kernel
theorem dX11_sender_5 : decode cX11_sender 5 = .ok (.ifCond .ne 5, 3) := by decide +kernel
theorem dX11_sender_8 : decode cX11_sender 8 = .ok (.iconst (-1), 1) := by decide +kernel
theorem dX11_sender_9 : decode cX11_sender 9 = .ok (.ireturn, 1) := by decide +kernel
theorem dX11_sender_10 : decode cX11_sender 10 = .ok (.iload_n 2, 1) := by decide +kernel
theorem dX11_sender_11 : decode cX11_sender 11 = .ok (.tableswitch 229 0 18 #[89, 96, 103, 110, 117, 124, 131, 138, 145, 152, 167, 174, 181, 188, 195, 202, 209, 216, 223], 89) := by decide +kernel
theorem dX11_sender_100 : decode cX11_sender 100 = .ok (.aload_n 0, 1) := by decide +kernel
theorem dX11_sender_101 : decode cX11_sender 101 = .ok (.getfield 100, 3) := by decide +kernel
theorem dX11_sender_104 : decode cX11_sender 104 = .ok (.iload_n 1, 1) := by decide +kernel
theorem dX11_sender_105 : decode cX11_sender 105 = .ok (.iaload, 1) := by decide +kernel
theorem dX11_sender_106 : decode cX11_sender 106 = .ok (.ireturn, 1) := by decide +kernel
theorem dX11_sender_107 : decode cX11_sender 107 = .ok (.aload_n 0, 1) := by decide +kernel
theorem dX11_sender_108 : decode cX11_sender 108 = .ok (.getfield 103, 3) := by decide +kernel
theorem dX11_sender_111 : decode cX11_sender 111 = .ok (.iload_n 1, 1) := by decide +kernel
theorem dX11_sender_112 : decode cX11_sender 112 = .ok (.iaload, 1) := by decide +kernel
theorem dX11_sender_113 : decode cX11_sender 113 = .ok (.ireturn, 1) := by decide +kernel
theorem dX11_sender_114 : decode cX11_sender 114 = .ok (.aload_n 0, 1) := by decide +kernel
theorem dX11_sender_115 : decode cX11_sender 115 = .ok (.getfield 106, 3) := by decide +kernel
theorem dX11_sender_118 : decode cX11_sender 118 = .ok (.iload_n 1, 1) := by decide +kernel
theorem dX11_sender_119 : decode cX11_sender 119 = .ok (.iaload, 1) := by decide +kernel
theorem dX11_sender_120 : decode cX11_sender 120 = .ok (.ireturn, 1) := by decide +kernel
theorem dX11_sender_121 : decode cX11_sender 121 = .ok (.aload_n 0, 1) := by decide +kernel
theorem dX11_sender_122 : decode cX11_sender 122 = .ok (.getfield 109, 3) := by decide +kernel
theorem dX11_sender_125 : decode cX11_sender 125 = .ok (.iload_n 1, 1) := by decide +kernel
theorem dX11_sender_126 : decode cX11_sender 126 = .ok (.iaload, 1) := by decide +kernel
theorem dX11_sender_127 : decode cX11_sender 127 = .ok (.ireturn, 1) := by decide +kernel
theorem dX11_sender_128 : decode cX11_sender 128 = .ok (.aload_n 0, 1) := by decide +kernel
theorem dX11_sender_129 : decode cX11_sender 129 = .ok (.getfield 112, 3) := by decide +kernel
theorem dX11_sender_132 : decode cX11_sender 132 = .ok (.iload_n 1, 1) := by decide +kernel
theorem dX11_sender_133 : decode cX11_sender 133 = .ok (.iaload, 1) := by decide +kernel
theorem dX11_sender_134 : decode cX11_sender 134 = .ok (.ireturn, 1) := by decide +kernel
theorem dX11_sender_135 : decode cX11_sender 135 = .ok (.aload_n 0, 1) := by decide +kernel
theorem dX11_sender_136 : decode cX11_sender 136 = .ok (.getfield 115, 3) := by decide +kernel
theorem dX11_sender_139 : decode cX11_sender 139 = .ok (.iload_n 1, 1) := by decide +kernel
theorem dX11_sender_140 : decode cX11_sender 140 = .ok (.iaload, 1) := by decide +kernel
theorem dX11_sender_141 : decode cX11_sender 141 = .ok (.ireturn, 1) := by decide +kernel
theorem dX11_sender_142 : decode cX11_sender 142 = .ok (.aload_n 0, 1) := by decide +kernel
theorem dX11_sender_143 : decode cX11_sender 143 = .ok (.getfield 118, 3) := by decide +kernel
theorem dX11_sender_146 : decode cX11_sender 146 = .ok (.iload_n 1, 1) := by decide +kernel
theorem dX11_sender_147 : decode cX11_sender 147 = .ok (.iaload, 1) := by decide +kernel
theorem dX11_sender_148 : decode cX11_sender 148 = .ok (.ireturn, 1) := by decide +kernel
theorem dX11_sender_149 : decode cX11_sender 149 = .ok (.aload_n 0, 1) := by decide +kernel
theorem dX11_sender_150 : decode cX11_sender 150 = .ok (.getfield 121, 3) := by decide +kernel
theorem dX11_sender_153 : decode cX11_sender 153 = .ok (.iload_n 1, 1) := by decide +kernel
theorem dX11_sender_154 : decode cX11_sender 154 = .ok (.iaload, 1) := by decide +kernel
theorem dX11_sender_155 : decode cX11_sender 155 = .ok (.ireturn, 1) := by decide +kernel
theorem dX11_sender_156 : decode cX11_sender 156 = .ok (.aload_n 0, 1) := by decide +kernel
theorem dX11_sender_157 : decode cX11_sender 157 = .ok (.getfield 127, 3) := by decide +kernel
theorem dX11_sender_160 : decode cX11_sender 160 = .ok (.iload_n 1, 1) := by decide +kernel
theorem dX11_sender_161 : decode cX11_sender 161 = .ok (.iaload, 1) := by decide +kernel
theorem dX11_sender_162 : decode cX11_sender 162 = .ok (.ireturn, 1) := by decide +kernel
theorem dX11_sender_163 : decode cX11_sender 163 = .ok (.aload_n 0, 1) := by decide +kernel
theorem dX11_sender_164 : decode cX11_sender 164 = .ok (.getfield 130, 3) := by decide +kernel
theorem dX11_sender_167 : decode cX11_sender 167 = .ok (.iload_n 1, 1) := by decide +kernel
theorem dX11_sender_168 : decode cX11_sender 168 = .ok (.baload, 1) := by decide +kernel
theorem dX11_sender_169 : decode cX11_sender 169 = .ok (.ifCond .eq 7, 3) := by decide +kernel
theorem dX11_sender_172 : decode cX11_sender 172 = .ok (.iconst 1, 1) := by decide +kernel
theorem dX11_sender_173 : decode cX11_sender 173 = .ok (.goto 4, 3) := by decide +kernel
theorem dX11_sender_176 : decode cX11_sender 176 = .ok (.iconst 0, 1) := by decide +kernel
theorem dX11_sender_177 : decode cX11_sender 177 = .ok (.ireturn, 1) := by decide +kernel
theorem dX11_sender_178 : decode cX11_sender 178 = .ok (.aload_n 0, 1) := by decide +kernel
theorem dX11_sender_179 : decode cX11_sender 179 = .ok (.getfield 139, 3) := by decide +kernel
theorem dX11_sender_182 : decode cX11_sender 182 = .ok (.iload_n 1, 1) := by decide +kernel
theorem dX11_sender_183 : decode cX11_sender 183 = .ok (.iaload, 1) := by decide +kernel
theorem dX11_sender_184 : decode cX11_sender 184 = .ok (.ireturn, 1) := by decide +kernel
theorem dX11_sender_185 : decode cX11_sender 185 = .ok (.aload_n 0, 1) := by decide +kernel
theorem dX11_sender_186 : decode cX11_sender 186 = .ok (.getfield 142, 3) := by decide +kernel
theorem dX11_sender_189 : decode cX11_sender 189 = .ok (.iload_n 1, 1) := by decide +kernel
theorem dX11_sender_190 : decode cX11_sender 190 = .ok (.iaload, 1) := by decide +kernel
theorem dX11_sender_191 : decode cX11_sender 191 = .ok (.ireturn, 1) := by decide +kernel
theorem dX11_sender_192 : decode cX11_sender 192 = .ok (.aload_n 0, 1) := by decide +kernel
theorem dX11_sender_193 : decode cX11_sender 193 = .ok (.getfield 145, 3) := by decide +kernel
theorem dX11_sender_196 : decode cX11_sender 196 = .ok (.iload_n 1, 1) := by decide +kernel
theorem dX11_sender_197 : decode cX11_sender 197 = .ok (.iaload, 1) := by decide +kernel
theorem dX11_sender_198 : decode cX11_sender 198 = .ok (.ireturn, 1) := by decide +kernel
theorem dX11_sender_199 : decode cX11_sender 199 = .ok (.aload_n 0, 1) := by decide +kernel
theorem dX11_sender_200 : decode cX11_sender 200 = .ok (.getfield 148, 3) := by decide +kernel
theorem dX11_sender_203 : decode cX11_sender 203 = .ok (.iload_n 1, 1) := by decide +kernel
theorem dX11_sender_204 : decode cX11_sender 204 = .ok (.iaload, 1) := by decide +kernel
theorem dX11_sender_205 : decode cX11_sender 205 = .ok (.ireturn, 1) := by decide +kernel
theorem dX11_sender_206 : decode cX11_sender 206 = .ok (.aload_n 0, 1) := by decide +kernel
theorem dX11_sender_207 : decode cX11_sender 207 = .ok (.getfield 151, 3) := by decide +kernel
theorem dX11_sender_210 : decode cX11_sender 210 = .ok (.iload_n 1, 1) := by decide +kernel
theorem dX11_sender_211 : decode cX11_sender 211 = .ok (.iaload, 1) := by decide +kernel
theorem dX11_sender_212 : decode cX11_sender 212 = .ok (.ireturn, 1) := by decide +kernel
theorem dX11_sender_213 : decode cX11_sender 213 = .ok (.aload_n 0, 1) := by decide +kernel
theorem dX11_sender_214 : decode cX11_sender 214 = .ok (.getfield 154, 3) := by decide +kernel
theorem dX11_sender_217 : decode cX11_sender 217 = .ok (.iload_n 1, 1) := by decide +kernel
theorem dX11_sender_218 : decode cX11_sender 218 = .ok (.iaload, 1) := by decide +kernel
theorem dX11_sender_219 : decode cX11_sender 219 = .ok (.ireturn, 1) := by decide +kernel
theorem dX11_sender_220 : decode cX11_sender 220 = .ok (.aload_n 0, 1) := by decide +kernel
theorem dX11_sender_221 : decode cX11_sender 221 = .ok (.getfield 157, 3) := by decide +kernel
theorem dX11_sender_224 : decode cX11_sender 224 = .ok (.iload_n 1, 1) := by decide +kernel
theorem dX11_sender_225 : decode cX11_sender 225 = .ok (.iaload, 1) := by decide +kernel
theorem dX11_sender_226 : decode cX11_sender 226 = .ok (.ireturn, 1) := by decide +kernel
theorem dX11_sender_227 : decode cX11_sender 227 = .ok (.aload_n 0, 1) := by decide +kernel
theorem dX11_sender_228 : decode cX11_sender 228 = .ok (.getfield 160, 3) := by decide +kernel
theorem dX11_sender_231 : decode cX11_sender 231 = .ok (.iload_n 1, 1) := by decide +kernel
theorem dX11_sender_232 : decode cX11_sender 232 = .ok (.iaload, 1) := by decide +kernel
theorem dX11_sender_233 : decode cX11_sender 233 = .ok (.ireturn, 1) := by decide +kernel
theorem dX11_sender_234 : decode cX11_sender 234 = .ok (.aload_n 0, 1) := by decide +kernel
theorem dX11_sender_235 : decode cX11_sender 235 = .ok (.iload_n 1, 1) := by decide +kernel
theorem dX11_sender_236 : decode cX11_sender 236 = .ok (.invokevirtual 341, 3) := by decide +kernel
theorem dX11_sender_239 : decode cX11_sender 239 = .ok (.ireturn, 1) := by decide +kernel
theorem dX11_sender_240 : decode cX11_sender 240 = .ok (.iconst (-1), 1) := by decide +kernel
theorem dX11_sender_241 : decode cX11_sender 241 = .ok (.ireturn, 1) := by decide +kernel
theorem dX11_receiver_0 : decode cX11_receiver 0 = .ok (.aload_n 0, 1) := by decide +kernel
theorem dX11_receiver_1 : decode cX11_receiver 1 = .ok (.iload_n 1, 1) := by decide +kernel
theorem dX11_receiver_2 : decode cX11_receiver 2 = .ok (.invokevirtual 195, 3) := by decide +kernel
theorem dX11_receiver_5 : decode cX11_receiver 5 = .ok (.ifCond .ne 5, 3) := by decide +kernel
theorem dX11_receiver_8 : decode cX11_receiver 8 = .ok (.iconst (-1), 1) := by decide +kernel
theorem dX11_receiver_9 : decode cX11_receiver 9 = .ok (.ireturn, 1) := by decide +kernel
theorem dX11_receiver_10 : decode cX11_receiver 10 = .ok (.iload_n 2, 1) := by decide +kernel
theorem dX11_receiver_11 : decode cX11_receiver 11 = .ok (.tableswitch 89 0 6 #[41, 48, 54, 61, 68, 75, 82], 41) := by decide +kernel
theorem dX11_receiver_52 : decode cX11_receiver 52 = .ok (.aload_n 0, 1) := by decide +kernel
theorem dX11_receiver_53 : decode cX11_receiver 53 = .ok (.getfield 70, 3) := by decide +kernel
theorem dX11_receiver_56 : decode cX11_receiver 56 = .ok (.iload_n 1, 1) := by decide +kernel
theorem dX11_receiver_57 : decode cX11_receiver 57 = .ok (.iaload, 1) := by decide +kernel
theorem dX11_receiver_58 : decode cX11_receiver 58 = .ok (.ireturn, 1) := by decide +kernel
theorem dX11_receiver_59 : decode cX11_receiver 59 = .ok (.aload_n 0, 1) := by decide +kernel
theorem dX11_receiver_60 : decode cX11_receiver 60 = .ok (.iload_n 1, 1) := by decide +kernel
theorem dX11_receiver_61 : decode cX11_receiver 61 = .ok (.invokevirtual 260, 3) := by decide +kernel
theorem dX11_receiver_64 : decode cX11_receiver 64 = .ok (.ireturn, 1) := by decide +kernel
theorem dX11_receiver_65 : decode cX11_receiver 65 = .ok (.aload_n 0, 1) := by decide +kernel
theorem dX11_receiver_66 : decode cX11_receiver 66 = .ok (.getfield 73, 3) := by decide +kernel
theorem dX11_receiver_69 : decode cX11_receiver 69 = .ok (.iload_n 1, 1) := by decide +kernel
theorem dX11_receiver_70 : decode cX11_receiver 70 = .ok (.iaload, 1) := by decide +kernel
theorem dX11_receiver_71 : decode cX11_receiver 71 = .ok (.ireturn, 1) := by decide +kernel
theorem dX11_receiver_72 : decode cX11_receiver 72 = .ok (.aload_n 0, 1) := by decide +kernel
theorem dX11_receiver_73 : decode cX11_receiver 73 = .ok (.getfield 79, 3) := by decide +kernel
theorem dX11_receiver_76 : decode cX11_receiver 76 = .ok (.iload_n 1, 1) := by decide +kernel
theorem dX11_receiver_77 : decode cX11_receiver 77 = .ok (.iaload, 1) := by decide +kernel
theorem dX11_receiver_78 : decode cX11_receiver 78 = .ok (.ireturn, 1) := by decide +kernel
theorem dX11_receiver_79 : decode cX11_receiver 79 = .ok (.aload_n 0, 1) := by decide +kernel
theorem dX11_receiver_80 : decode cX11_receiver 80 = .ok (.getfield 82, 3) := by decide +kernel
theorem dX11_receiver_83 : decode cX11_receiver 83 = .ok (.iload_n 1, 1) := by decide +kernel
theorem dX11_receiver_84 : decode cX11_receiver 84 = .ok (.iaload, 1) := by decide +kernel
theorem dX11_receiver_85 : decode cX11_receiver 85 = .ok (.ireturn, 1) := by decide +kernel
theorem dX11_receiver_86 : decode cX11_receiver 86 = .ok (.aload_n 0, 1) := by decide +kernel
theorem dX11_receiver_87 : decode cX11_receiver 87 = .ok (.getfield 85, 3) := by decide +kernel
theorem dX11_receiver_90 : decode cX11_receiver 90 = .ok (.iload_n 1, 1) := by decide +kernel
theorem dX11_receiver_91 : decode cX11_receiver 91 = .ok (.iaload, 1) := by decide +kernel
theorem dX11_receiver_92 : decode cX11_receiver 92 = .ok (.ireturn, 1) := by decide +kernel
theorem dX11_receiver_93 : decode cX11_receiver 93 = .ok (.aload_n 0, 1) := by decide +kernel
theorem dX11_receiver_94 : decode cX11_receiver 94 = .ok (.getfield 88, 3) := by decide +kernel
theorem dX11_receiver_97 : decode cX11_receiver 97 = .ok (.iload_n 1, 1) := by decide +kernel
theorem dX11_receiver_98 : decode cX11_receiver 98 = .ok (.iaload, 1) := by decide +kernel
theorem dX11_receiver_99 : decode cX11_receiver 99 = .ok (.ireturn, 1) := by decide +kernel
theorem dX11_receiver_100 : decode cX11_receiver 100 = .ok (.iconst (-1), 1) := by decide +kernel
theorem dX11_receiver_101 : decode cX11_receiver 101 = .ok (.ireturn, 1) := by decide +kernel
theorem dX11_kept_0 : decode cX11_kept 0 = .ok (.aload_n 0, 1) := by decide +kernel
theorem dX11_kept_1 : decode cX11_kept 1 = .ok (.iload_n 1, 1) := by decide +kernel
theorem dX11_kept_2 : decode cX11_kept 2 = .ok (.invokevirtual 195, 3) := by decide +kernel
theorem dX11_kept_5 : decode cX11_kept 5 = .ok (.ifCond .eq 7, 3) := by decide +kernel
theorem dX11_kept_8 : decode cX11_kept 8 = .ok (.iload_n 2, 1) := by decide +kernel
theorem dX11_kept_9 : decode cX11_kept 9 = .ok (.ifCond .ge 5, 3) := by decide +kernel
theorem dX11_kept_12 : decode cX11_kept 12 = .ok (.iconst (-1), 1) := by decide +kernel
theorem dX11_kept_13 : decode cX11_kept 13 = .ok (.ireturn, 1) := by decide +kernel
theorem dX11_kept_14 : decode cX11_kept 14 = .ok (.iconst 0, 1) := by decide +kernel
theorem dX11_kept_15 : decode cX11_kept 15 = .ok (.istore_n 3, 1) := by decide +kernel
theorem dX11_kept_16 : decode cX11_kept 16 = .ok (.iconst 0, 1) := by decide +kernel
theorem dX11_kept_17 : decode cX11_kept 17 = .ok (.istore 4, 2) := by decide +kernel
theorem dX11_kept_19 : decode cX11_kept 19 = .ok (.iload 4, 2) := by decide +kernel
theorem dX11_kept_21 : decode cX11_kept 21 = .ok (.sipush 200, 3) := by decide +kernel
theorem dX11_kept_24 : decode cX11_kept 24 = .ok (.if_icmp .ge 46, 3) := by decide +kernel
theorem dX11_kept_27 : decode cX11_kept 27 = .ok (.aload_n 0, 1) := by decide +kernel
theorem dX11_kept_28 : decode cX11_kept 28 = .ok (.getfield 76, 3) := by decide +kernel
theorem dX11_kept_31 : decode cX11_kept 31 = .ok (.sipush 200, 3) := by decide +kernel
theorem dX11_kept_34 : decode cX11_kept 34 = .ok (.iload_n 1, 1) := by decide +kernel
theorem dX11_kept_35 : decode cX11_kept 35 = .ok (.imul, 1) := by decide +kernel
theorem dX11_kept_36 : decode cX11_kept 36 = .ok (.iload 4, 2) := by decide +kernel
theorem dX11_kept_38 : decode cX11_kept 38 = .ok (.iadd, 1) := by decide +kernel
theorem dX11_kept_39 : decode cX11_kept 39 = .ok (.baload, 1) := by decide +kernel
theorem dX11_kept_40 : decode cX11_kept 40 = .ok (.ifCond .ne 6, 3) := by decide +kernel
theorem dX11_kept_43 : decode cX11_kept 43 = .ok (.goto 21, 3) := by decide +kernel
theorem dX11_kept_46 : decode cX11_kept 46 = .ok (.iload_n 3, 1) := by decide +kernel
theorem dX11_kept_47 : decode cX11_kept 47 = .ok (.iload_n 2, 1) := by decide +kernel
theorem dX11_kept_48 : decode cX11_kept 48 = .ok (.if_icmp .ne 13, 3) := by decide +kernel
theorem dX11_kept_51 : decode cX11_kept 51 = .ok (.aload_n 0, 1) := by decide +kernel
theorem dX11_kept_52 : decode cX11_kept 52 = .ok (.getfield 70, 3) := by decide +kernel
theorem dX11_kept_55 : decode cX11_kept 55 = .ok (.iload_n 1, 1) := by decide +kernel
theorem dX11_kept_56 : decode cX11_kept 56 = .ok (.iaload, 1) := by decide +kernel
theorem dX11_kept_57 : decode cX11_kept 57 = .ok (.iload 4, 2) := by decide +kernel
theorem dX11_kept_59 : decode cX11_kept 59 = .ok (.iadd, 1) := by decide +kernel
theorem dX11_kept_60 : decode cX11_kept 60 = .ok (.ireturn, 1) := by decide +kernel
theorem dX11_kept_61 : decode cX11_kept 61 = .ok (.iinc 3 1, 3) := by decide +kernel
theorem dX11_kept_64 : decode cX11_kept 64 = .ok (.iinc 4 1, 3) := by decide +kernel
theorem dX11_kept_67 : decode cX11_kept 67 = .ok (.goto (-48), 3) := by decide +kernel
theorem dX11_kept_70 : decode cX11_kept 70 = .ok (.iconst (-1), 1) := by decide +kernel
theorem dX11_kept_71 : decode cX11_kept 71 = .ok (.ireturn, 1) := by decide +kernel
theorem dX11_most_0 : decode cX11_most 0 = .ok (.aload_n 0, 1) := by decide +kernel
theorem dX11_most_1 : decode cX11_most 1 = .ok (.iload_n 1, 1) := by decide +kernel
theorem dX11_most_2 : decode cX11_most 2 = .ok (.invokevirtual 195, 3) := by decide +kernel
theorem dX11_most_5 : decode cX11_most 5 = .ok (.ifCond .eq 12, 3) := by decide +kernel
theorem dX11_most_8 : decode cX11_most 8 = .ok (.aload_n 0, 1) := by decide +kernel
theorem dX11_most_9 : decode cX11_most 9 = .ok (.getfield 172, 3) := by decide +kernel
theorem dX11_most_12 : decode cX11_most 12 = .ok (.iload_n 1, 1) := by decide +kernel
theorem dX11_most_13 : decode cX11_most 13 = .ok (.iaload, 1) := by decide +kernel
theorem dX11_most_14 : decode cX11_most 14 = .ok (.goto 4, 3) := by decide +kernel
theorem dX11_most_17 : decode cX11_most 17 = .ok (.iconst 0, 1) := by decide +kernel
theorem dX11_most_18 : decode cX11_most 18 = .ok (.ireturn, 1) := by decide +kernel
theorem dX11_count_0 : decode cX11_count 0 = .ok (.iload_n 1, 1) := by decide +kernel
theorem dX11_count_1 : decode cX11_count 1 = .ok (.tableswitch 136 0 9 #[55, 60, 65, 70, 88, 93, 98, 108, 118, 131], 55) := by decide +kernel
theorem dX11_count_56 : decode cX11_count 56 = .ok (.aload_n 0, 1) := by decide +kernel
theorem dX11_count_57 : decode cX11_count 57 = .ok (.getfield 207, 3) := by decide +kernel
theorem dX11_count_60 : decode cX11_count 60 = .ok (.ireturn, 1) := by decide +kernel
theorem dX11_count_61 : decode cX11_count 61 = .ok (.aload_n 0, 1) := by decide +kernel
theorem dX11_count_62 : decode cX11_count 62 = .ok (.getfield 191, 3) := by decide +kernel
theorem dX11_count_65 : decode cX11_count 65 = .ok (.ireturn, 1) := by decide +kernel
theorem dX11_count_66 : decode cX11_count 66 = .ok (.aload_n 0, 1) := by decide +kernel
theorem dX11_count_67 : decode cX11_count 67 = .ok (.getfield 201, 3) := by decide +kernel
theorem dX11_count_70 : decode cX11_count 70 = .ok (.ireturn, 1) := by decide +kernel
theorem dX11_count_71 : decode cX11_count 71 = .ok (.aload_n 0, 1) := by decide +kernel
theorem dX11_count_72 : decode cX11_count 72 = .ok (.getfield 230, 3) := by decide +kernel
theorem dX11_count_75 : decode cX11_count 75 = .ok (.ifCond .le 12, 3) := by decide +kernel
theorem dX11_count_78 : decode cX11_count 78 = .ok (.aload_n 0, 1) := by decide +kernel
theorem dX11_count_79 : decode cX11_count 79 = .ok (.getfield 230, 3) := by decide +kernel
theorem dX11_count_82 : decode cX11_count 82 = .ok (.iconst 1, 1) := by decide +kernel
theorem dX11_count_83 : decode cX11_count 83 = .ok (.isub, 1) := by decide +kernel
theorem dX11_count_84 : decode cX11_count 84 = .ok (.goto 4, 3) := by decide +kernel
theorem dX11_count_87 : decode cX11_count 87 = .ok (.iconst 0, 1) := by decide +kernel
theorem dX11_count_88 : decode cX11_count 88 = .ok (.ireturn, 1) := by decide +kernel
theorem dX11_count_89 : decode cX11_count 89 = .ok (.aload_n 0, 1) := by decide +kernel
theorem dX11_count_90 : decode cX11_count 90 = .ok (.getfield 329, 3) := by decide +kernel
theorem dX11_count_93 : decode cX11_count 93 = .ok (.ireturn, 1) := by decide +kernel
theorem dX11_count_94 : decode cX11_count 94 = .ok (.aload_n 0, 1) := by decide +kernel
theorem dX11_count_95 : decode cX11_count 95 = .ok (.getfield 326, 3) := by decide +kernel
theorem dX11_count_98 : decode cX11_count 98 = .ok (.ireturn, 1) := by decide +kernel
theorem dX11_count_99 : decode cX11_count 99 = .ok (.aload_n 0, 1) := by decide +kernel
theorem dX11_count_100 : decode cX11_count 100 = .ok (.getfield 236, 3) := by decide +kernel
theorem dX11_count_103 : decode cX11_count 103 = .ok (.aload_n 0, 1) := by decide +kernel
theorem dX11_count_104 : decode cX11_count 104 = .ok (.getfield 242, 3) := by decide +kernel
theorem dX11_count_107 : decode cX11_count 107 = .ok (.isub, 1) := by decide +kernel
theorem dX11_count_108 : decode cX11_count 108 = .ok (.ireturn, 1) := by decide +kernel
theorem dX11_count_109 : decode cX11_count 109 = .ok (.aload_n 0, 1) := by decide +kernel
theorem dX11_count_110 : decode cX11_count 110 = .ok (.getfield 268, 3) := by decide +kernel
theorem dX11_count_113 : decode cX11_count 113 = .ok (.aload_n 0, 1) := by decide +kernel
theorem dX11_count_114 : decode cX11_count 114 = .ok (.getfield 271, 3) := by decide +kernel
theorem dX11_count_117 : decode cX11_count 117 = .ok (.isub, 1) := by decide +kernel
theorem dX11_count_118 : decode cX11_count 118 = .ok (.ireturn, 1) := by decide +kernel
theorem dX11_count_119 : decode cX11_count 119 = .ok (.aload_n 0, 1) := by decide +kernel
theorem dX11_count_120 : decode cX11_count 120 = .ok (.getfield 230, 3) := by decide +kernel
theorem dX11_count_123 : decode cX11_count 123 = .ok (.ifCond .le 7, 3) := by decide +kernel
theorem dX11_count_126 : decode cX11_count 126 = .ok (.iconst 1, 1) := by decide +kernel
theorem dX11_count_127 : decode cX11_count 127 = .ok (.goto 4, 3) := by decide +kernel
theorem dX11_count_130 : decode cX11_count 130 = .ok (.iconst 0, 1) := by decide +kernel
theorem dX11_count_131 : decode cX11_count 131 = .ok (.ireturn, 1) := by decide +kernel
theorem dX11_count_132 : decode cX11_count 132 = .ok (.aload_n 0, 1) := by decide +kernel
theorem dX11_count_133 : decode cX11_count 133 = .ok (.getfield 257, 3) := by decide +kernel
theorem dX11_count_136 : decode cX11_count 136 = .ok (.ireturn, 1) := by decide +kernel
theorem dX11_count_137 : decode cX11_count 137 = .ok (.iconst (-1), 1) := by decide +kernel
theorem dX11_count_138 : decode cX11_count 138 = .ok (.ireturn, 1) := by decide +kernel
theorem dJ9_abs_0f7a4_0 : decode cJ9_abs_0f7a4 0 = .ok (.iload_n 0, 1) := by decide +kernel
theorem dJ9_abs_0f7a4_1 : decode cJ9_abs_0f7a4 1 = .ok (.ifCond .ge 8, 3) := by decide +kernel
theorem dJ9_abs_0f7a4_4 : decode cJ9_abs_0f7a4 4 = .ok (.iload_n 0, 1) := by decide +kernel
theorem dJ9_abs_0f7a4_5 : decode cJ9_abs_0f7a4 5 = .ok (.ineg, 1) := by decide +kernel
theorem dJ9_abs_0f7a4_6 : decode cJ9_abs_0f7a4 6 = .ok (.goto 4, 3) := by decide +kernel
theorem dJ9_abs_0f7a4_9 : decode cJ9_abs_0f7a4 9 = .ok (.iload_n 0, 1) := by decide +kernel
theorem dJ9_abs_0f7a4_10 : decode cJ9_abs_0f7a4 10 = .ok (.ireturn, 1) := by decide +kernel
theorem dJ9_max_7cf53_0 : decode cJ9_max_7cf53 0 = .ok (.iload_n 0, 1) := by decide +kernel
theorem dJ9_max_7cf53_1 : decode cJ9_max_7cf53 1 = .ok (.iload_n 1, 1) := by decide +kernel
theorem dJ9_max_7cf53_2 : decode cJ9_max_7cf53 2 = .ok (.if_icmp .lt 7, 3) := by decide +kernel
theorem dJ9_max_7cf53_5 : decode cJ9_max_7cf53 5 = .ok (.iload_n 0, 1) := by decide +kernel
theorem dJ9_max_7cf53_6 : decode cJ9_max_7cf53 6 = .ok (.goto 4, 3) := by decide +kernel
theorem dJ9_max_7cf53_9 : decode cJ9_max_7cf53 9 = .ok (.iload_n 1, 1) := by decide +kernel
theorem dJ9_max_7cf53_10 : decode cJ9_max_7cf53 10 = .ok (.ireturn, 1) := by decide +kernel
theorem dJ9_max_f86c9_0 : decode cJ9_max_f86c9 0 = .ok (.lload_n 0, 1) := by decide +kernel
theorem dJ9_max_f86c9_1 : decode cJ9_max_f86c9 1 = .ok (.lload_n 2, 1) := by decide +kernel
theorem dJ9_max_f86c9_2 : decode cJ9_max_f86c9 2 = .ok (.lcmp, 1) := by decide +kernel
theorem dJ9_max_f86c9_3 : decode cJ9_max_f86c9 3 = .ok (.ifCond .lt 7, 3) := by decide +kernel
theorem dJ9_max_f86c9_6 : decode cJ9_max_f86c9 6 = .ok (.lload_n 0, 1) := by decide +kernel
theorem dJ9_max_f86c9_7 : decode cJ9_max_f86c9 7 = .ok (.goto 4, 3) := by decide +kernel
theorem dJ9_max_f86c9_10 : decode cJ9_max_f86c9 10 = .ok (.lload_n 2, 1) := by decide +kernel
theorem dJ9_max_f86c9_11 : decode cJ9_max_f86c9 11 = .ok (.lreturn, 1) := by decide +kernel
theorem dJ9_min_7cf53_0 : decode cJ9_min_7cf53 0 = .ok (.iload_n 0, 1) := by decide +kernel
theorem dJ9_min_7cf53_1 : decode cJ9_min_7cf53 1 = .ok (.iload_n 1, 1) := by decide +kernel
theorem dJ9_min_7cf53_2 : decode cJ9_min_7cf53 2 = .ok (.if_icmp .gt 7, 3) := by decide +kernel
theorem dJ9_min_7cf53_5 : decode cJ9_min_7cf53 5 = .ok (.iload_n 0, 1) := by decide +kernel
theorem dJ9_min_7cf53_6 : decode cJ9_min_7cf53 6 = .ok (.goto 4, 3) := by decide +kernel
theorem dJ9_min_7cf53_9 : decode cJ9_min_7cf53 9 = .ok (.iload_n 1, 1) := by decide +kernel
theorem dJ9_min_7cf53_10 : decode cJ9_min_7cf53 10 = .ok (.ireturn, 1) := by decide +kernel
theorem dJ9_min_f86c9_0 : decode cJ9_min_f86c9 0 = .ok (.lload_n 0, 1) := by decide +kernel
theorem dJ9_min_f86c9_1 : decode cJ9_min_f86c9 1 = .ok (.lload_n 2, 1) := by decide +kernel
theorem dJ9_min_f86c9_2 : decode cJ9_min_f86c9 2 = .ok (.lcmp, 1) := by decide +kernel
theorem dJ9_min_f86c9_3 : decode cJ9_min_f86c9 3 = .ok (.ifCond .gt 7, 3) := by decide +kernel
theorem dJ9_min_f86c9_6 : decode cJ9_min_f86c9 6 = .ok (.lload_n 0, 1) := by decide +kernel
theorem dJ9_min_f86c9_7 : decode cJ9_min_f86c9 7 = .ok (.goto 4, 3) := by decide +kernel
theorem dJ9_min_f86c9_10 : decode cJ9_min_f86c9 10 = .ok (.lload_n 2, 1) := by decide +kernel
theorem dJ9_min_f86c9_11 : decode cJ9_min_f86c9 11 = .ok (.lreturn, 1) := by decide +kernel
theorem dL_law_0 : decode cL_law 0 = .ok (.new 7, 3) := by decide +kernel
theorem dL_law_3 : decode cL_law 3 = .ok (.dup, 1) := by decide +kernel
theorem dL_law_4 : decode cL_law 4 = .ok (.invokespecial 9, 3) := by decide +kernel
theorem dL_law_7 : decode cL_law 7 = .ok (.astore_n 1, 1) := by decide +kernel
theorem dL_law_8 : decode cL_law 8 = .ok (.new 10, 3) := by decide +kernel
theorem dL_law_11 : decode cL_law 11 = .ok (.dup, 1) := by decide +kernel
theorem dL_law_12 : decode cL_law 12 = .ok (.invokespecial 12, 3) := by decide +kernel
theorem dL_law_15 : decode cL_law 15 = .ok (.astore_n 2, 1) := by decide +kernel
theorem dL_law_16 : decode cL_law 16 = .ok (.iconst 0, 1) := by decide +kernel
theorem dL_law_17 : decode cL_law 17 = .ok (.istore_n 3, 1) := by decide +kernel
theorem dL_law_18 : decode cL_law 18 = .ok (.iload_n 3, 1) := by decide +kernel
theorem dL_law_19 : decode cL_law 19 = .ok (.aload_n 0, 1) := by decide +kernel
theorem dL_law_20 : decode cL_law 20 = .ok (.arraylength, 1) := by decide +kernel
theorem dL_law_21 : decode cL_law 21 = .ok (.iconst 5, 1) := by decide +kernel
theorem dL_law_22 : decode cL_law 22 = .ok (.isub, 1) := by decide +kernel
theorem dL_law_23 : decode cL_law 23 = .ok (.if_icmp .gt 434, 3) := by decide +kernel
theorem dL_law_26 : decode cL_law 26 = .ok (.aload_n 0, 1) := by decide +kernel
theorem dL_law_27 : decode cL_law 27 = .ok (.iload_n 3, 1) := by decide +kernel
theorem dL_law_28 : decode cL_law 28 = .ok (.iaload, 1) := by decide +kernel
theorem dL_law_29 : decode cL_law 29 = .ok (.bipush 15, 2) := by decide +kernel
theorem dL_law_31 : decode cL_law 31 = .ok (.iand, 1) := by decide +kernel
theorem dL_law_32 : decode cL_law 32 = .ok (.tableswitch 419 0 10 #[60, 113, 162, 195, 228, 251, 274, 307, 340, 373, 396], 60) := by decide +kernel
theorem dL_law_92 : decode cL_law 92 = .ok (.aload_n 1, 1) := by decide +kernel
theorem dL_law_93 : decode cL_law 93 = .ok (.aload_n 0, 1) := by decide +kernel
theorem dL_law_94 : decode cL_law 94 = .ok (.iload_n 3, 1) := by decide +kernel
theorem dL_law_95 : decode cL_law 95 = .ok (.iconst 1, 1) := by decide +kernel
theorem dL_law_96 : decode cL_law 96 = .ok (.iadd, 1) := by decide +kernel
theorem dL_law_97 : decode cL_law 97 = .ok (.iaload, 1) := by decide +kernel
theorem dL_law_98 : decode cL_law 98 = .ok (.aload_n 0, 1) := by decide +kernel
theorem dL_law_99 : decode cL_law 99 = .ok (.iload_n 3, 1) := by decide +kernel
theorem dL_law_100 : decode cL_law 100 = .ok (.iconst 2, 1) := by decide +kernel
theorem dL_law_101 : decode cL_law 101 = .ok (.iadd, 1) := by decide +kernel
theorem dL_law_102 : decode cL_law 102 = .ok (.iaload, 1) := by decide +kernel
theorem dL_law_103 : decode cL_law 103 = .ok (.aload_n 0, 1) := by decide +kernel
theorem dL_law_104 : decode cL_law 104 = .ok (.iload_n 3, 1) := by decide +kernel
theorem dL_law_105 : decode cL_law 105 = .ok (.iconst 3, 1) := by decide +kernel
theorem dL_law_106 : decode cL_law 106 = .ok (.iadd, 1) := by decide +kernel
theorem dL_law_107 : decode cL_law 107 = .ok (.iaload, 1) := by decide +kernel
theorem dL_law_108 : decode cL_law 108 = .ok (.aload_n 0, 1) := by decide +kernel
theorem dL_law_109 : decode cL_law 109 = .ok (.iload_n 3, 1) := by decide +kernel
theorem dL_law_110 : decode cL_law 110 = .ok (.iconst 4, 1) := by decide +kernel
theorem dL_law_111 : decode cL_law 111 = .ok (.iadd, 1) := by decide +kernel
theorem dL_law_112 : decode cL_law 112 = .ok (.iaload, 1) := by decide +kernel
theorem dL_law_113 : decode cL_law 113 = .ok (.invokevirtual 13, 3) := by decide +kernel
theorem dL_law_116 : decode cL_law 116 = .ok (.pop, 1) := by decide +kernel
theorem dL_law_117 : decode cL_law 117 = .ok (.aload_n 2, 1) := by decide +kernel
theorem dL_law_118 : decode cL_law 118 = .ok (.aload_n 0, 1) := by decide +kernel
theorem dL_law_119 : decode cL_law 119 = .ok (.iload_n 3, 1) := by decide +kernel
theorem dL_law_120 : decode cL_law 120 = .ok (.iconst 1, 1) := by decide +kernel
theorem dL_law_121 : decode cL_law 121 = .ok (.iadd, 1) := by decide +kernel
theorem dL_law_122 : decode cL_law 122 = .ok (.iaload, 1) := by decide +kernel
theorem dL_law_123 : decode cL_law 123 = .ok (.aload_n 0, 1) := by decide +kernel
theorem dL_law_124 : decode cL_law 124 = .ok (.iload_n 3, 1) := by decide +kernel
theorem dL_law_125 : decode cL_law 125 = .ok (.iconst 2, 1) := by decide +kernel
theorem dL_law_126 : decode cL_law 126 = .ok (.iadd, 1) := by decide +kernel
theorem dL_law_127 : decode cL_law 127 = .ok (.iaload, 1) := by decide +kernel
theorem dL_law_128 : decode cL_law 128 = .ok (.aload_n 0, 1) := by decide +kernel
theorem dL_law_129 : decode cL_law 129 = .ok (.iload_n 3, 1) := by decide +kernel
theorem dL_law_130 : decode cL_law 130 = .ok (.iconst 3, 1) := by decide +kernel
theorem dL_law_131 : decode cL_law 131 = .ok (.iadd, 1) := by decide +kernel
theorem dL_law_132 : decode cL_law 132 = .ok (.iaload, 1) := by decide +kernel
theorem dL_law_133 : decode cL_law 133 = .ok (.aload_n 0, 1) := by decide +kernel
theorem dL_law_134 : decode cL_law 134 = .ok (.iload_n 3, 1) := by decide +kernel
theorem dL_law_135 : decode cL_law 135 = .ok (.iconst 4, 1) := by decide +kernel
theorem dL_law_136 : decode cL_law 136 = .ok (.iadd, 1) := by decide +kernel
theorem dL_law_137 : decode cL_law 137 = .ok (.iaload, 1) := by decide +kernel
theorem dL_law_138 : decode cL_law 138 = .ok (.invokevirtual 17, 3) := by decide +kernel
theorem dL_law_141 : decode cL_law 141 = .ok (.pop, 1) := by decide +kernel
theorem dL_law_142 : decode cL_law 142 = .ok (.goto 309, 3) := by decide +kernel
theorem dL_law_145 : decode cL_law 145 = .ok (.aload_n 1, 1) := by decide +kernel
theorem dL_law_146 : decode cL_law 146 = .ok (.aload_n 0, 1) := by decide +kernel
theorem dL_law_147 : decode cL_law 147 = .ok (.iload_n 3, 1) := by decide +kernel
theorem dL_law_148 : decode cL_law 148 = .ok (.iconst 1, 1) := by decide +kernel
theorem dL_law_149 : decode cL_law 149 = .ok (.iadd, 1) := by decide +kernel
theorem dL_law_150 : decode cL_law 150 = .ok (.iaload, 1) := by decide +kernel
theorem dL_law_151 : decode cL_law 151 = .ok (.aload_n 0, 1) := by decide +kernel
theorem dL_law_152 : decode cL_law 152 = .ok (.iload_n 3, 1) := by decide +kernel
theorem dL_law_153 : decode cL_law 153 = .ok (.iconst 2, 1) := by decide +kernel
theorem dL_law_154 : decode cL_law 154 = .ok (.iadd, 1) := by decide +kernel
theorem dL_law_155 : decode cL_law 155 = .ok (.iaload, 1) := by decide +kernel
theorem dL_law_156 : decode cL_law 156 = .ok (.ifCond .eq 7, 3) := by decide +kernel
theorem dL_law_159 : decode cL_law 159 = .ok (.iconst 1, 1) := by decide +kernel
theorem dL_law_160 : decode cL_law 160 = .ok (.goto 4, 3) := by decide +kernel
theorem dL_law_163 : decode cL_law 163 = .ok (.iconst 0, 1) := by decide +kernel
theorem dL_law_164 : decode cL_law 164 = .ok (.invokevirtual 18, 3) := by decide +kernel
theorem dL_law_167 : decode cL_law 167 = .ok (.pop, 1) := by decide +kernel
theorem dL_law_168 : decode cL_law 168 = .ok (.aload_n 2, 1) := by decide +kernel
theorem dL_law_169 : decode cL_law 169 = .ok (.aload_n 0, 1) := by decide +kernel
theorem dL_law_170 : decode cL_law 170 = .ok (.iload_n 3, 1) := by decide +kernel
theorem dL_law_171 : decode cL_law 171 = .ok (.iconst 1, 1) := by decide +kernel
theorem dL_law_172 : decode cL_law 172 = .ok (.iadd, 1) := by decide +kernel
theorem dL_law_173 : decode cL_law 173 = .ok (.iaload, 1) := by decide +kernel
theorem dL_law_174 : decode cL_law 174 = .ok (.aload_n 0, 1) := by decide +kernel
theorem dL_law_175 : decode cL_law 175 = .ok (.iload_n 3, 1) := by decide +kernel
theorem dL_law_176 : decode cL_law 176 = .ok (.iconst 2, 1) := by decide +kernel
theorem dL_law_177 : decode cL_law 177 = .ok (.iadd, 1) := by decide +kernel
theorem dL_law_178 : decode cL_law 178 = .ok (.iaload, 1) := by decide +kernel
theorem dL_law_179 : decode cL_law 179 = .ok (.ifCond .eq 7, 3) := by decide +kernel
theorem dL_law_182 : decode cL_law 182 = .ok (.iconst 1, 1) := by decide +kernel
theorem dL_law_183 : decode cL_law 183 = .ok (.goto 4, 3) := by decide +kernel
theorem dL_law_186 : decode cL_law 186 = .ok (.iconst 0, 1) := by decide +kernel
theorem dL_law_187 : decode cL_law 187 = .ok (.invokevirtual 22, 3) := by decide +kernel
theorem dL_law_190 : decode cL_law 190 = .ok (.pop, 1) := by decide +kernel
theorem dL_law_191 : decode cL_law 191 = .ok (.goto 260, 3) := by decide +kernel
theorem dL_law_194 : decode cL_law 194 = .ok (.aload_n 1, 1) := by decide +kernel
theorem dL_law_195 : decode cL_law 195 = .ok (.aload_n 0, 1) := by decide +kernel
theorem dL_law_196 : decode cL_law 196 = .ok (.iload_n 3, 1) := by decide +kernel
theorem dL_law_197 : decode cL_law 197 = .ok (.iconst 1, 1) := by decide +kernel
theorem dL_law_198 : decode cL_law 198 = .ok (.iadd, 1) := by decide +kernel
theorem dL_law_199 : decode cL_law 199 = .ok (.iaload, 1) := by decide +kernel
theorem dL_law_200 : decode cL_law 200 = .ok (.aload_n 0, 1) := by decide +kernel
theorem dL_law_201 : decode cL_law 201 = .ok (.iload_n 3, 1) := by decide +kernel
theorem dL_law_202 : decode cL_law 202 = .ok (.iconst 2, 1) := by decide +kernel
theorem dL_law_203 : decode cL_law 203 = .ok (.iadd, 1) := by decide +kernel
theorem dL_law_204 : decode cL_law 204 = .ok (.iaload, 1) := by decide +kernel
theorem dL_law_205 : decode cL_law 205 = .ok (.invokevirtual 23, 3) := by decide +kernel
theorem dL_law_208 : decode cL_law 208 = .ok (.pop, 1) := by decide +kernel
theorem dL_law_209 : decode cL_law 209 = .ok (.aload_n 2, 1) := by decide +kernel
theorem dL_law_210 : decode cL_law 210 = .ok (.aload_n 0, 1) := by decide +kernel
theorem dL_law_211 : decode cL_law 211 = .ok (.iload_n 3, 1) := by decide +kernel
theorem dL_law_212 : decode cL_law 212 = .ok (.iconst 1, 1) := by decide +kernel
theorem dL_law_213 : decode cL_law 213 = .ok (.iadd, 1) := by decide +kernel
theorem dL_law_214 : decode cL_law 214 = .ok (.iaload, 1) := by decide +kernel
theorem dL_law_215 : decode cL_law 215 = .ok (.aload_n 0, 1) := by decide +kernel
theorem dL_law_216 : decode cL_law 216 = .ok (.iload_n 3, 1) := by decide +kernel
theorem dL_law_217 : decode cL_law 217 = .ok (.iconst 2, 1) := by decide +kernel
theorem dL_law_218 : decode cL_law 218 = .ok (.iadd, 1) := by decide +kernel
theorem dL_law_219 : decode cL_law 219 = .ok (.iaload, 1) := by decide +kernel
theorem dL_law_220 : decode cL_law 220 = .ok (.invokevirtual 27, 3) := by decide +kernel
theorem dL_law_223 : decode cL_law 223 = .ok (.pop, 1) := by decide +kernel
theorem dL_law_224 : decode cL_law 224 = .ok (.goto 227, 3) := by decide +kernel
theorem dL_law_227 : decode cL_law 227 = .ok (.aload_n 1, 1) := by decide +kernel
theorem dL_law_228 : decode cL_law 228 = .ok (.aload_n 0, 1) := by decide +kernel
theorem dL_law_229 : decode cL_law 229 = .ok (.iload_n 3, 1) := by decide +kernel
theorem dL_law_230 : decode cL_law 230 = .ok (.iconst 1, 1) := by decide +kernel
theorem dL_law_231 : decode cL_law 231 = .ok (.iadd, 1) := by decide +kernel
theorem dL_law_232 : decode cL_law 232 = .ok (.iaload, 1) := by decide +kernel
theorem dL_law_233 : decode cL_law 233 = .ok (.aload_n 0, 1) := by decide +kernel
theorem dL_law_234 : decode cL_law 234 = .ok (.iload_n 3, 1) := by decide +kernel
theorem dL_law_235 : decode cL_law 235 = .ok (.iconst 2, 1) := by decide +kernel
theorem dL_law_236 : decode cL_law 236 = .ok (.iadd, 1) := by decide +kernel
theorem dL_law_237 : decode cL_law 237 = .ok (.iaload, 1) := by decide +kernel
theorem dL_law_238 : decode cL_law 238 = .ok (.invokevirtual 28, 3) := by decide +kernel
theorem dL_law_241 : decode cL_law 241 = .ok (.pop, 1) := by decide +kernel
theorem dL_law_242 : decode cL_law 242 = .ok (.aload_n 2, 1) := by decide +kernel
theorem dL_law_243 : decode cL_law 243 = .ok (.aload_n 0, 1) := by decide +kernel
theorem dL_law_244 : decode cL_law 244 = .ok (.iload_n 3, 1) := by decide +kernel
theorem dL_law_245 : decode cL_law 245 = .ok (.iconst 1, 1) := by decide +kernel
theorem dL_law_246 : decode cL_law 246 = .ok (.iadd, 1) := by decide +kernel
theorem dL_law_247 : decode cL_law 247 = .ok (.iaload, 1) := by decide +kernel
theorem dL_law_248 : decode cL_law 248 = .ok (.aload_n 0, 1) := by decide +kernel
theorem dL_law_249 : decode cL_law 249 = .ok (.iload_n 3, 1) := by decide +kernel
theorem dL_law_250 : decode cL_law 250 = .ok (.iconst 2, 1) := by decide +kernel
theorem dL_law_251 : decode cL_law 251 = .ok (.iadd, 1) := by decide +kernel
theorem dL_law_252 : decode cL_law 252 = .ok (.iaload, 1) := by decide +kernel
theorem dL_law_253 : decode cL_law 253 = .ok (.invokevirtual 31, 3) := by decide +kernel
theorem dL_law_256 : decode cL_law 256 = .ok (.pop, 1) := by decide +kernel
theorem dL_law_257 : decode cL_law 257 = .ok (.goto 194, 3) := by decide +kernel
theorem dL_law_260 : decode cL_law 260 = .ok (.aload_n 1, 1) := by decide +kernel
theorem dL_law_261 : decode cL_law 261 = .ok (.aload_n 0, 1) := by decide +kernel
theorem dL_law_262 : decode cL_law 262 = .ok (.iload_n 3, 1) := by decide +kernel
theorem dL_law_263 : decode cL_law 263 = .ok (.iconst 1, 1) := by decide +kernel
theorem dL_law_264 : decode cL_law 264 = .ok (.iadd, 1) := by decide +kernel
theorem dL_law_265 : decode cL_law 265 = .ok (.iaload, 1) := by decide +kernel
theorem dL_law_266 : decode cL_law 266 = .ok (.invokevirtual 32, 3) := by decide +kernel
theorem dL_law_269 : decode cL_law 269 = .ok (.pop, 1) := by decide +kernel
theorem dL_law_270 : decode cL_law 270 = .ok (.aload_n 2, 1) := by decide +kernel
theorem dL_law_271 : decode cL_law 271 = .ok (.aload_n 0, 1) := by decide +kernel
theorem dL_law_272 : decode cL_law 272 = .ok (.iload_n 3, 1) := by decide +kernel
theorem dL_law_273 : decode cL_law 273 = .ok (.iconst 1, 1) := by decide +kernel
theorem dL_law_274 : decode cL_law 274 = .ok (.iadd, 1) := by decide +kernel
theorem dL_law_275 : decode cL_law 275 = .ok (.iaload, 1) := by decide +kernel
theorem dL_law_276 : decode cL_law 276 = .ok (.invokevirtual 36, 3) := by decide +kernel
theorem dL_law_279 : decode cL_law 279 = .ok (.pop, 1) := by decide +kernel
theorem dL_law_280 : decode cL_law 280 = .ok (.goto 171, 3) := by decide +kernel
theorem dL_law_283 : decode cL_law 283 = .ok (.aload_n 1, 1) := by decide +kernel
theorem dL_law_284 : decode cL_law 284 = .ok (.aload_n 0, 1) := by decide +kernel
theorem dL_law_285 : decode cL_law 285 = .ok (.iload_n 3, 1) := by decide +kernel
theorem dL_law_286 : decode cL_law 286 = .ok (.iconst 1, 1) := by decide +kernel
theorem dL_law_287 : decode cL_law 287 = .ok (.iadd, 1) := by decide +kernel
theorem dL_law_288 : decode cL_law 288 = .ok (.iaload, 1) := by decide +kernel
theorem dL_law_289 : decode cL_law 289 = .ok (.invokevirtual 37, 3) := by decide +kernel
theorem dL_law_292 : decode cL_law 292 = .ok (.pop, 1) := by decide +kernel
theorem dL_law_293 : decode cL_law 293 = .ok (.aload_n 2, 1) := by decide +kernel
theorem dL_law_294 : decode cL_law 294 = .ok (.aload_n 0, 1) := by decide +kernel
theorem dL_law_295 : decode cL_law 295 = .ok (.iload_n 3, 1) := by decide +kernel
theorem dL_law_296 : decode cL_law 296 = .ok (.iconst 1, 1) := by decide +kernel
theorem dL_law_297 : decode cL_law 297 = .ok (.iadd, 1) := by decide +kernel
theorem dL_law_298 : decode cL_law 298 = .ok (.iaload, 1) := by decide +kernel
theorem dL_law_299 : decode cL_law 299 = .ok (.invokevirtual 41, 3) := by decide +kernel
theorem dL_law_302 : decode cL_law 302 = .ok (.pop, 1) := by decide +kernel
theorem dL_law_303 : decode cL_law 303 = .ok (.goto 148, 3) := by decide +kernel
theorem dL_law_306 : decode cL_law 306 = .ok (.aload_n 1, 1) := by decide +kernel
theorem dL_law_307 : decode cL_law 307 = .ok (.aload_n 0, 1) := by decide +kernel
theorem dL_law_308 : decode cL_law 308 = .ok (.iload_n 3, 1) := by decide +kernel
theorem dL_law_309 : decode cL_law 309 = .ok (.iconst 1, 1) := by decide +kernel
theorem dL_law_310 : decode cL_law 310 = .ok (.iadd, 1) := by decide +kernel
theorem dL_law_311 : decode cL_law 311 = .ok (.iaload, 1) := by decide +kernel
theorem dL_law_312 : decode cL_law 312 = .ok (.aload_n 0, 1) := by decide +kernel
theorem dL_law_313 : decode cL_law 313 = .ok (.iload_n 3, 1) := by decide +kernel
theorem dL_law_314 : decode cL_law 314 = .ok (.iconst 2, 1) := by decide +kernel
theorem dL_law_315 : decode cL_law 315 = .ok (.iadd, 1) := by decide +kernel
theorem dL_law_316 : decode cL_law 316 = .ok (.iaload, 1) := by decide +kernel
theorem dL_law_317 : decode cL_law 317 = .ok (.invokevirtual 42, 3) := by decide +kernel
theorem dL_law_320 : decode cL_law 320 = .ok (.pop, 1) := by decide +kernel
theorem dL_law_321 : decode cL_law 321 = .ok (.aload_n 2, 1) := by decide +kernel
theorem dL_law_322 : decode cL_law 322 = .ok (.aload_n 0, 1) := by decide +kernel
theorem dL_law_323 : decode cL_law 323 = .ok (.iload_n 3, 1) := by decide +kernel
theorem dL_law_324 : decode cL_law 324 = .ok (.iconst 1, 1) := by decide +kernel
theorem dL_law_325 : decode cL_law 325 = .ok (.iadd, 1) := by decide +kernel
theorem dL_law_326 : decode cL_law 326 = .ok (.iaload, 1) := by decide +kernel
theorem dL_law_327 : decode cL_law 327 = .ok (.aload_n 0, 1) := by decide +kernel
theorem dL_law_328 : decode cL_law 328 = .ok (.iload_n 3, 1) := by decide +kernel
theorem dL_law_329 : decode cL_law 329 = .ok (.iconst 2, 1) := by decide +kernel
theorem dL_law_330 : decode cL_law 330 = .ok (.iadd, 1) := by decide +kernel
theorem dL_law_331 : decode cL_law 331 = .ok (.iaload, 1) := by decide +kernel
theorem dL_law_332 : decode cL_law 332 = .ok (.invokevirtual 45, 3) := by decide +kernel
theorem dL_law_335 : decode cL_law 335 = .ok (.pop, 1) := by decide +kernel
theorem dL_law_336 : decode cL_law 336 = .ok (.goto 115, 3) := by decide +kernel
theorem dL_law_339 : decode cL_law 339 = .ok (.aload_n 1, 1) := by decide +kernel
theorem dL_law_340 : decode cL_law 340 = .ok (.aload_n 0, 1) := by decide +kernel
theorem dL_law_341 : decode cL_law 341 = .ok (.iload_n 3, 1) := by decide +kernel
theorem dL_law_342 : decode cL_law 342 = .ok (.iconst 1, 1) := by decide +kernel
theorem dL_law_343 : decode cL_law 343 = .ok (.iadd, 1) := by decide +kernel
theorem dL_law_344 : decode cL_law 344 = .ok (.iaload, 1) := by decide +kernel
theorem dL_law_345 : decode cL_law 345 = .ok (.aload_n 0, 1) := by decide +kernel
theorem dL_law_346 : decode cL_law 346 = .ok (.iload_n 3, 1) := by decide +kernel
theorem dL_law_347 : decode cL_law 347 = .ok (.iconst 2, 1) := by decide +kernel
theorem dL_law_348 : decode cL_law 348 = .ok (.iadd, 1) := by decide +kernel
theorem dL_law_349 : decode cL_law 349 = .ok (.iaload, 1) := by decide +kernel
theorem dL_law_350 : decode cL_law 350 = .ok (.invokevirtual 46, 3) := by decide +kernel
theorem dL_law_353 : decode cL_law 353 = .ok (.pop, 1) := by decide +kernel
theorem dL_law_354 : decode cL_law 354 = .ok (.aload_n 2, 1) := by decide +kernel
theorem dL_law_355 : decode cL_law 355 = .ok (.aload_n 0, 1) := by decide +kernel
theorem dL_law_356 : decode cL_law 356 = .ok (.iload_n 3, 1) := by decide +kernel
theorem dL_law_357 : decode cL_law 357 = .ok (.iconst 1, 1) := by decide +kernel
theorem dL_law_358 : decode cL_law 358 = .ok (.iadd, 1) := by decide +kernel
theorem dL_law_359 : decode cL_law 359 = .ok (.iaload, 1) := by decide +kernel
theorem dL_law_360 : decode cL_law 360 = .ok (.aload_n 0, 1) := by decide +kernel
theorem dL_law_361 : decode cL_law 361 = .ok (.iload_n 3, 1) := by decide +kernel
theorem dL_law_362 : decode cL_law 362 = .ok (.iconst 2, 1) := by decide +kernel
theorem dL_law_363 : decode cL_law 363 = .ok (.iadd, 1) := by decide +kernel
theorem dL_law_364 : decode cL_law 364 = .ok (.iaload, 1) := by decide +kernel
theorem dL_law_365 : decode cL_law 365 = .ok (.invokevirtual 49, 3) := by decide +kernel
theorem dL_law_368 : decode cL_law 368 = .ok (.pop, 1) := by decide +kernel
theorem dL_law_369 : decode cL_law 369 = .ok (.goto 82, 3) := by decide +kernel
