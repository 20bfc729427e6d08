theorem dX11_due_69 : decode cX11_due 69 = .ok (.aload_n 0, 1) := by decide +kernel
theorem dX11_due_70 : decode cX11_due 70 = .ok (.getfield 106, 3) := by decide +kernel
theorem dX11_due_73 : decode cX11_due 73 = .ok (.iload_n 1, 1) := by decide +kernel
theorem dX11_due_74 : decode cX11_due 74 = .ok (.iaload, 1) := by decide +kernel
theorem dX11_due_75 : decode cX11_due 75 = .ok (.iastore, 1) := by decide +kernel
theorem dX11_due_76 : decode cX11_due 76 = .ok (.aload_n 0, 1) := by decide +kernel
theorem dX11_due_77 : decode cX11_due 77 = .ok (.getfield 103, 3) := by decide +kernel
theorem dX11_due_80 : decode cX11_due 80 = .ok (.iload_n 1, 1) := by decide +kernel
theorem dX11_due_81 : decode cX11_due 81 = .ok (.aload_n 0, 1) := by decide +kernel
theorem dX11_due_82 : decode cX11_due 82 = .ok (.getfield 100, 3) := by decide +kernel
theorem dX11_due_85 : decode cX11_due 85 = .ok (.iload_n 1, 1) := by decide +kernel
theorem dX11_due_86 : decode cX11_due 86 = .ok (.iaload, 1) := by decide +kernel
theorem dX11_due_87 : decode cX11_due 87 = .ok (.iastore, 1) := by decide +kernel
theorem dX11_due_88 : decode cX11_due 88 = .ok (.iconst 0, 1) := by decide +kernel
theorem dX11_due_89 : decode cX11_due 89 = .ok (.istore_n 2, 1) := by decide +kernel
theorem dX11_due_90 : decode cX11_due 90 = .ok (.iload_n 2, 1) := by decide +kernel
theorem dX11_due_91 : decode cX11_due 91 = .ok (.sipush 200, 3) := by decide +kernel
theorem dX11_due_94 : decode cX11_due 94 = .ok (.if_icmp .ge 22, 3) := by decide +kernel
theorem dX11_due_97 : decode cX11_due 97 = .ok (.aload_n 0, 1) := by decide +kernel
theorem dX11_due_98 : decode cX11_due 98 = .ok (.getfield 181, 3) := by decide +kernel
theorem dX11_due_101 : decode cX11_due 101 = .ok (.sipush 200, 3) := by decide +kernel
theorem dX11_due_104 : decode cX11_due 104 = .ok (.iload_n 1, 1) := by decide +kernel
theorem dX11_due_105 : decode cX11_due 105 = .ok (.imul, 1) := by decide +kernel
theorem dX11_due_106 : decode cX11_due 106 = .ok (.iload_n 2, 1) := by decide +kernel
theorem dX11_due_107 : decode cX11_due 107 = .ok (.iadd, 1) := by decide +kernel
theorem dX11_due_108 : decode cX11_due 108 = .ok (.iconst 0, 1) := by decide +kernel
theorem dX11_due_109 : decode cX11_due 109 = .ok (.bastore, 1) := by decide +kernel
theorem dX11_due_110 : decode cX11_due 110 = .ok (.iinc 2 1, 3) := by decide +kernel
theorem dX11_due_113 : decode cX11_due 113 = .ok (.goto (-23), 3) := by decide +kernel
theorem dX11_due_116 : decode cX11_due 116 = .ok (.aload_n 0, 1) := by decide +kernel
theorem dX11_due_117 : decode cX11_due 117 = .ok (.getfield 151, 3) := by decide +kernel
theorem dX11_due_120 : decode cX11_due 120 = .ok (.iload_n 1, 1) := by decide +kernel
theorem dX11_due_121 : decode cX11_due 121 = .ok (.iconst (-1), 1) := by decide +kernel
theorem dX11_due_122 : decode cX11_due 122 = .ok (.iastore, 1) := by decide +kernel
theorem dX11_due_123 : decode cX11_due 123 = .ok (.return_, 1) := by decide +kernel
theorem dX11_due_124 : decode cX11_due 124 = .ok (.aload_n 0, 1) := by decide +kernel
theorem dX11_due_125 : decode cX11_due 125 = .ok (.getfield 151, 3) := by decide +kernel
theorem dX11_due_128 : decode cX11_due 128 = .ok (.iload_n 1, 1) := by decide +kernel
theorem dX11_due_129 : decode cX11_due 129 = .ok (.iconst (-1), 1) := by decide +kernel
theorem dX11_due_130 : decode cX11_due 130 = .ok (.iastore, 1) := by decide +kernel
theorem dX11_due_131 : decode cX11_due 131 = .ok (.aload_n 0, 1) := by decide +kernel
theorem dX11_due_132 : decode cX11_due 132 = .ok (.getfield 148, 3) := by decide +kernel
theorem dX11_due_135 : decode cX11_due 135 = .ok (.iload_n 1, 1) := by decide +kernel
theorem dX11_due_136 : decode cX11_due 136 = .ok (.iaload, 1) := by decide +kernel
theorem dX11_due_137 : decode cX11_due 137 = .ok (.ifCond .gt 18, 3) := by decide +kernel
theorem dX11_due_140 : decode cX11_due 140 = .ok (.aload_n 0, 1) := by decide +kernel
theorem dX11_due_141 : decode cX11_due 141 = .ok (.getfield 103, 3) := by decide +kernel
theorem dX11_due_144 : decode cX11_due 144 = .ok (.iload_n 1, 1) := by decide +kernel
theorem dX11_due_145 : decode cX11_due 145 = .ok (.iaload, 1) := by decide +kernel
theorem dX11_due_146 : decode cX11_due 146 = .ok (.aload_n 0, 1) := by decide +kernel
theorem dX11_due_147 : decode cX11_due 147 = .ok (.getfield 97, 3) := by decide +kernel
theorem dX11_due_150 : decode cX11_due 150 = .ok (.iload_n 1, 1) := by decide +kernel
theorem dX11_due_151 : decode cX11_due 151 = .ok (.iaload, 1) := by decide +kernel
theorem dX11_due_152 : decode cX11_due 152 = .ok (.if_icmp .lt 4, 3) := by decide +kernel
theorem dX11_due_155 : decode cX11_due 155 = .ok (.return_, 1) := by decide +kernel
theorem dX11_due_156 : decode cX11_due 156 = .ok (.aload_n 0, 1) := by decide +kernel
theorem dX11_due_157 : decode cX11_due 157 = .ok (.getfield 154, 3) := by decide +kernel
theorem dX11_due_160 : decode cX11_due 160 = .ok (.iload_n 1, 1) := by decide +kernel
theorem dX11_due_161 : decode cX11_due 161 = .ok (.dup2, 1) := by decide +kernel
theorem dX11_due_162 : decode cX11_due 162 = .ok (.iaload, 1) := by decide +kernel
theorem dX11_due_163 : decode cX11_due 163 = .ok (.iconst 1, 1) := by decide +kernel
theorem dX11_due_164 : decode cX11_due 164 = .ok (.iadd, 1) := by decide +kernel
theorem dX11_due_165 : decode cX11_due 165 = .ok (.iastore, 1) := by decide +kernel
theorem dX11_due_166 : decode cX11_due 166 = .ok (.aload_n 0, 1) := by decide +kernel
theorem dX11_due_167 : decode cX11_due 167 = .ok (.iload_n 1, 1) := by decide +kernel
theorem dX11_due_168 : decode cX11_due 168 = .ok (.aload_n 0, 1) := by decide +kernel
theorem dX11_due_169 : decode cX11_due 169 = .ok (.getfield 103, 3) := by decide +kernel
theorem dX11_due_172 : decode cX11_due 172 = .ok (.iload_n 1, 1) := by decide +kernel
theorem dX11_due_173 : decode cX11_due 173 = .ok (.iaload, 1) := by decide +kernel
theorem dX11_due_174 : decode cX11_due 174 = .ok (.iconst 1, 1) := by decide +kernel
theorem dX11_due_175 : decode cX11_due 175 = .ok (.invokevirtual 323, 3) := by decide +kernel
theorem dX11_due_178 : decode cX11_due 178 = .ok (.aload_n 0, 1) := by decide +kernel
theorem dX11_due_179 : decode cX11_due 179 = .ok (.getfield 106, 3) := by decide +kernel
theorem dX11_due_182 : decode cX11_due 182 = .ok (.iload_n 1, 1) := by decide +kernel
theorem dX11_due_183 : decode cX11_due 183 = .ok (.aload_n 0, 1) := by decide +kernel
theorem dX11_due_184 : decode cX11_due 184 = .ok (.getfield 103, 3) := by decide +kernel
theorem dX11_due_187 : decode cX11_due 187 = .ok (.iload_n 1, 1) := by decide +kernel
theorem dX11_due_188 : decode cX11_due 188 = .ok (.iaload, 1) := by decide +kernel
theorem dX11_due_189 : decode cX11_due 189 = .ok (.iconst 1, 1) := by decide +kernel
theorem dX11_due_190 : decode cX11_due 190 = .ok (.iadd, 1) := by decide +kernel
theorem dX11_due_191 : decode cX11_due 191 = .ok (.aload_n 0, 1) := by decide +kernel
theorem dX11_due_192 : decode cX11_due 192 = .ok (.getfield 106, 3) := by decide +kernel
theorem dX11_due_195 : decode cX11_due 195 = .ok (.iload_n 1, 1) := by decide +kernel
theorem dX11_due_196 : decode cX11_due 196 = .ok (.iaload, 1) := by decide +kernel
theorem dX11_due_197 : decode cX11_due 197 = .ok (.if_icmp .le 14, 3) := by decide +kernel
theorem dX11_due_200 : decode cX11_due 200 = .ok (.aload_n 0, 1) := by decide +kernel
theorem dX11_due_201 : decode cX11_due 201 = .ok (.getfield 103, 3) := by decide +kernel
theorem dX11_due_204 : decode cX11_due 204 = .ok (.iload_n 1, 1) := by decide +kernel
theorem dX11_due_205 : decode cX11_due 205 = .ok (.iaload, 1) := by decide +kernel
theorem dX11_due_206 : decode cX11_due 206 = .ok (.iconst 1, 1) := by decide +kernel
theorem dX11_due_207 : decode cX11_due 207 = .ok (.iadd, 1) := by decide +kernel
theorem dX11_due_208 : decode cX11_due 208 = .ok (.goto 9, 3) := by decide +kernel
theorem dX11_due_211 : decode cX11_due 211 = .ok (.aload_n 0, 1) := by decide +kernel
theorem dX11_due_212 : decode cX11_due 212 = .ok (.getfield 106, 3) := by decide +kernel
theorem dX11_due_215 : decode cX11_due 215 = .ok (.iload_n 1, 1) := by decide +kernel
theorem dX11_due_216 : decode cX11_due 216 = .ok (.iaload, 1) := by decide +kernel
theorem dX11_due_217 : decode cX11_due 217 = .ok (.iastore, 1) := by decide +kernel
theorem dX11_due_218 : decode cX11_due 218 = .ok (.aload_n 0, 1) := by decide +kernel
theorem dX11_due_219 : decode cX11_due 219 = .ok (.iload_n 1, 1) := by decide +kernel
theorem dX11_due_220 : decode cX11_due 220 = .ok (.invokevirtual 320, 3) := by decide +kernel
theorem dX11_due_223 : decode cX11_due 223 = .ok (.aload_n 0, 1) := by decide +kernel
theorem dX11_due_224 : decode cX11_due 224 = .ok (.getfield 151, 3) := by decide +kernel
theorem dX11_due_227 : decode cX11_due 227 = .ok (.iload_n 1, 1) := by decide +kernel
theorem dX11_due_228 : decode cX11_due 228 = .ok (.aload_n 0, 1) := by decide +kernel
theorem dX11_due_229 : decode cX11_due 229 = .ok (.getfield 207, 3) := by decide +kernel
theorem dX11_due_232 : decode cX11_due 232 = .ok (.aload_n 0, 1) := by decide +kernel
theorem dX11_due_233 : decode cX11_due 233 = .ok (.getfield 115, 3) := by decide +kernel
theorem dX11_due_236 : decode cX11_due 236 = .ok (.iload_n 1, 1) := by decide +kernel
theorem dX11_due_237 : decode cX11_due 237 = .ok (.iaload, 1) := by decide +kernel
theorem dX11_due_238 : decode cX11_due 238 = .ok (.iadd, 1) := by decide +kernel
theorem dX11_due_239 : decode cX11_due 239 = .ok (.iastore, 1) := by decide +kernel
theorem dX11_due_240 : decode cX11_due 240 = .ok (.return_, 1) := by decide +kernel
theorem dX11_doubles_0 : decode cX11_doubles 0 = .ok (.aload_n 0, 1) := by decide +kernel
theorem dX11_doubles_1 : decode cX11_doubles 1 = .ok (.getfield 115, 3) := by decide +kernel
theorem dX11_doubles_4 : decode cX11_doubles 4 = .ok (.iload_n 1, 1) := by decide +kernel
theorem dX11_doubles_5 : decode cX11_doubles 5 = .ok (.iconst 2, 1) := by decide +kernel
theorem dX11_doubles_6 : decode cX11_doubles 6 = .ok (.aload_n 0, 1) := by decide +kernel
theorem dX11_doubles_7 : decode cX11_doubles 7 = .ok (.getfield 115, 3) := by decide +kernel
theorem dX11_doubles_10 : decode cX11_doubles 10 = .ok (.iload_n 1, 1) := by decide +kernel
theorem dX11_doubles_11 : decode cX11_doubles 11 = .ok (.iaload, 1) := by decide +kernel
theorem dX11_doubles_12 : decode cX11_doubles 12 = .ok (.imul, 1) := by decide +kernel
theorem dX11_doubles_13 : decode cX11_doubles 13 = .ok (.ldc_w 293, 3) := by decide +kernel
theorem dX11_doubles_16 : decode cX11_doubles 16 = .ok (.if_icmp .le 9, 3) := by decide +kernel
theorem dX11_doubles_19 : decode cX11_doubles 19 = .ok (.ldc_w 293, 3) := by decide +kernel
theorem dX11_doubles_22 : decode cX11_doubles 22 = .ok (.goto 11, 3) := by decide +kernel
theorem dX11_doubles_25 : decode cX11_doubles 25 = .ok (.iconst 2, 1) := by decide +kernel
theorem dX11_doubles_26 : decode cX11_doubles 26 = .ok (.aload_n 0, 1) := by decide +kernel
theorem dX11_doubles_27 : decode cX11_doubles 27 = .ok (.getfield 115, 3) := by decide +kernel
theorem dX11_doubles_30 : decode cX11_doubles 30 = .ok (.iload_n 1, 1) := by decide +kernel
theorem dX11_doubles_31 : decode cX11_doubles 31 = .ok (.iaload, 1) := by decide +kernel
theorem dX11_doubles_32 : decode cX11_doubles 32 = .ok (.imul, 1) := by decide +kernel
theorem dX11_doubles_33 : decode cX11_doubles 33 = .ok (.iastore, 1) := by decide +kernel
theorem dX11_doubles_34 : decode cX11_doubles 34 = .ok (.return_, 1) := by decide +kernel
theorem dX11_puts_0 : decode cX11_puts 0 = .ok (.aload_n 0, 1) := by decide +kernel
theorem dX11_puts_1 : decode cX11_puts 1 = .ok (.getfield 201, 3) := by decide +kernel
theorem dX11_puts_4 : decode cX11_puts 4 = .ok (.istore 4, 2) := by decide +kernel
theorem dX11_puts_6 : decode cX11_puts 6 = .ok (.aload_n 0, 1) := by decide +kernel
theorem dX11_puts_7 : decode cX11_puts 7 = .ok (.dup, 1) := by decide +kernel
theorem dX11_puts_8 : decode cX11_puts 8 = .ok (.getfield 201, 3) := by decide +kernel
theorem dX11_puts_11 : decode cX11_puts 11 = .ok (.iconst 1, 1) := by decide +kernel
theorem dX11_puts_12 : decode cX11_puts 12 = .ok (.iadd, 1) := by decide +kernel
theorem dX11_puts_13 : decode cX11_puts 13 = .ok (.putfield 201, 3) := by decide +kernel
theorem dX11_puts_16 : decode cX11_puts 16 = .ok (.iconst 0, 1) := by decide +kernel
theorem dX11_puts_17 : decode cX11_puts 17 = .ok (.istore 5, 2) := by decide +kernel
theorem dX11_puts_19 : decode cX11_puts 19 = .ok (.iload 5, 2) := by decide +kernel
theorem dX11_puts_21 : decode cX11_puts 21 = .ok (.aload_n 0, 1) := by decide +kernel
theorem dX11_puts_22 : decode cX11_puts 22 = .ok (.getfield 204, 3) := by decide +kernel
theorem dX11_puts_25 : decode cX11_puts 25 = .ok (.if_icmp .ge 61, 3) := by decide +kernel
theorem dX11_puts_28 : decode cX11_puts 28 = .ok (.aload_n 0, 1) := by decide +kernel
theorem dX11_puts_29 : decode cX11_puts 29 = .ok (.getfield 64, 3) := by decide +kernel
theorem dX11_puts_32 : decode cX11_puts 32 = .ok (.iload 5, 2) := by decide +kernel
theorem dX11_puts_34 : decode cX11_puts 34 = .ok (.iaload, 1) := by decide +kernel
theorem dX11_puts_35 : decode cX11_puts 35 = .ok (.iload 4, 2) := by decide +kernel
theorem dX11_puts_37 : decode cX11_puts 37 = .ok (.if_icmp .eq 6, 3) := by decide +kernel
theorem dX11_puts_40 : decode cX11_puts 40 = .ok (.goto 40, 3) := by decide +kernel
theorem dX11_puts_43 : decode cX11_puts 43 = .ok (.aload_n 0, 1) := by decide +kernel
theorem dX11_puts_44 : decode cX11_puts 44 = .ok (.dup, 1) := by decide +kernel
theorem dX11_puts_45 : decode cX11_puts 45 = .ok (.getfield 204, 3) := by decide +kernel
theorem dX11_puts_48 : decode cX11_puts 48 = .ok (.iconst 1, 1) := by decide +kernel
theorem dX11_puts_49 : decode cX11_puts 49 = .ok (.isub, 1) := by decide +kernel
theorem dX11_puts_50 : decode cX11_puts 50 = .ok (.putfield 204, 3) := by decide +kernel
theorem dX11_puts_53 : decode cX11_puts 53 = .ok (.aload_n 0, 1) := by decide +kernel
theorem dX11_puts_54 : decode cX11_puts 54 = .ok (.getfield 64, 3) := by decide +kernel
theorem dX11_puts_57 : decode cX11_puts 57 = .ok (.iload 5, 2) := by decide +kernel
theorem dX11_puts_59 : decode cX11_puts 59 = .ok (.aload_n 0, 1) := by decide +kernel
theorem dX11_puts_60 : decode cX11_puts 60 = .ok (.getfield 64, 3) := by decide +kernel
theorem dX11_puts_63 : decode cX11_puts 63 = .ok (.aload_n 0, 1) := by decide +kernel
theorem dX11_puts_64 : decode cX11_puts 64 = .ok (.getfield 204, 3) := by decide +kernel
theorem dX11_puts_67 : decode cX11_puts 67 = .ok (.iaload, 1) := by decide +kernel
theorem dX11_puts_68 : decode cX11_puts 68 = .ok (.iastore, 1) := by decide +kernel
theorem dX11_puts_69 : decode cX11_puts 69 = .ok (.aload_n 0, 1) := by decide +kernel
theorem dX11_puts_70 : decode cX11_puts 70 = .ok (.dup, 1) := by decide +kernel
theorem dX11_puts_71 : decode cX11_puts 71 = .ok (.getfield 326, 3) := by decide +kernel
theorem dX11_puts_74 : decode cX11_puts 74 = .ok (.iconst 1, 1) := by decide +kernel
theorem dX11_puts_75 : decode cX11_puts 75 = .ok (.iadd, 1) := by decide +kernel
theorem dX11_puts_76 : decode cX11_puts 76 = .ok (.putfield 326, 3) := by decide +kernel
theorem dX11_puts_79 : decode cX11_puts 79 = .ok (.return_, 1) := by decide +kernel
theorem dX11_puts_80 : decode cX11_puts 80 = .ok (.iinc 5 1, 3) := by decide +kernel
theorem dX11_puts_83 : decode cX11_puts 83 = .ok (.goto (-64), 3) := by decide +kernel
theorem dX11_puts_86 : decode cX11_puts 86 = .ok (.aload_n 0, 1) := by decide +kernel
theorem dX11_puts_87 : decode cX11_puts 87 = .ok (.getfield 230, 3) := by decide +kernel
theorem dX11_puts_90 : decode cX11_puts 90 = .ok (.aload_n 0, 1) := by decide +kernel
theorem dX11_puts_91 : decode cX11_puts 91 = .ok (.getfield 13, 3) := by decide +kernel
theorem dX11_puts_94 : decode cX11_puts 94 = .ok (.if_icmp .le 14, 3) := by decide +kernel
theorem dX11_puts_97 : decode cX11_puts 97 = .ok (.aload_n 0, 1) := by decide +kernel
theorem dX11_puts_98 : decode cX11_puts 98 = .ok (.dup, 1) := by decide +kernel
theorem dX11_puts_99 : decode cX11_puts 99 = .ok (.getfield 329, 3) := by decide +kernel
theorem dX11_puts_102 : decode cX11_puts 102 = .ok (.iconst 1, 1) := by decide +kernel
theorem dX11_puts_103 : decode cX11_puts 103 = .ok (.iadd, 1) := by decide +kernel
theorem dX11_puts_104 : decode cX11_puts 104 = .ok (.putfield 329, 3) := by decide +kernel
theorem dX11_puts_107 : decode cX11_puts 107 = .ok (.return_, 1) := by decide +kernel
theorem dX11_puts_108 : decode cX11_puts 108 = .ok (.aload_n 0, 1) := by decide +kernel
theorem dX11_puts_109 : decode cX11_puts 109 = .ok (.getfield 22, 3) := by decide +kernel
theorem dX11_puts_112 : decode cX11_puts 112 = .ok (.aload_n 0, 1) := by decide +kernel
theorem dX11_puts_113 : decode cX11_puts 113 = .ok (.getfield 230, 3) := by decide +kernel
theorem dX11_puts_116 : decode cX11_puts 116 = .ok (.iload_n 1, 1) := by decide +kernel
theorem dX11_puts_117 : decode cX11_puts 117 = .ok (.iastore, 1) := by decide +kernel
theorem dX11_puts_118 : decode cX11_puts 118 = .ok (.aload_n 0, 1) := by decide +kernel
theorem dX11_puts_119 : decode cX11_puts 119 = .ok (.getfield 26, 3) := by decide +kernel
theorem dX11_puts_122 : decode cX11_puts 122 = .ok (.aload_n 0, 1) := by decide +kernel
theorem dX11_puts_123 : decode cX11_puts 123 = .ok (.getfield 230, 3) := by decide +kernel
theorem dX11_puts_126 : decode cX11_puts 126 = .ok (.iload_n 2, 1) := by decide +kernel
theorem dX11_puts_127 : decode cX11_puts 127 = .ok (.iastore, 1) := by decide +kernel
theorem dX11_puts_128 : decode cX11_puts 128 = .ok (.aload_n 0, 1) := by decide +kernel
theorem dX11_puts_129 : decode cX11_puts 129 = .ok (.getfield 29, 3) := by decide +kernel
theorem dX11_puts_132 : decode cX11_puts 132 = .ok (.aload_n 0, 1) := by decide +kernel
theorem dX11_puts_133 : decode cX11_puts 133 = .ok (.getfield 230, 3) := by decide +kernel
theorem dX11_puts_136 : decode cX11_puts 136 = .ok (.iload_n 3, 1) := by decide +kernel
theorem dX11_puts_137 : decode cX11_puts 137 = .ok (.bastore, 1) := by decide +kernel
theorem dX11_puts_138 : decode cX11_puts 138 = .ok (.aload_n 0, 1) := by decide +kernel
theorem dX11_puts_139 : decode cX11_puts 139 = .ok (.getfield 230, 3) := by decide +kernel
theorem dX11_puts_142 : decode cX11_puts 142 = .ok (.ifCond .ne 16, 3) := by decide +kernel
theorem dX11_puts_145 : decode cX11_puts 145 = .ok (.aload_n 0, 1) := by decide +kernel
theorem dX11_puts_146 : decode cX11_puts 146 = .ok (.aload_n 0, 1) := by decide +kernel
theorem dX11_puts_147 : decode cX11_puts 147 = .ok (.getfield 207, 3) := by decide +kernel
theorem dX11_puts_150 : decode cX11_puts 150 = .ok (.aload_n 0, 1) := by decide +kernel
theorem dX11_puts_151 : decode cX11_puts 151 = .ok (.getfield 7, 3) := by decide +kernel
theorem dX11_puts_154 : decode cX11_puts 154 = .ok (.iadd, 1) := by decide +kernel
theorem dX11_puts_155 : decode cX11_puts 155 = .ok (.putfield 233, 3) := by decide +kernel
theorem dX11_puts_158 : decode cX11_puts 158 = .ok (.aload_n 0, 1) := by decide +kernel
theorem dX11_puts_159 : decode cX11_puts 159 = .ok (.dup, 1) := by decide +kernel
theorem dX11_puts_160 : decode cX11_puts 160 = .ok (.getfield 230, 3) := by decide +kernel
theorem dX11_puts_163 : decode cX11_puts 163 = .ok (.iconst 1, 1) := by decide +kernel
theorem dX11_puts_164 : decode cX11_puts 164 = .ok (.iadd, 1) := by decide +kernel
theorem dX11_puts_165 : decode cX11_puts 165 = .ok (.putfield 230, 3) := by decide +kernel
theorem dX11_puts_168 : decode cX11_puts 168 = .ok (.return_, 1) := by decide +kernel
set_option maxRecDepth 20000 in
theorem ggX11_sendsOne_X11_puts : GoodIn wsX11_sendsOne wsX11_puts := goodIn_r _ [12, 13, 14, 15, 16, 17, 18, 19, 20, 21, 22, 5, 23, 24, 25, 26, 27, 28, 29, 30, 31, 32, 33, 34, 35, 36, 37, 38, 39, 40, 41, 42, 43, 44, 45, 46, 47, 48, 49, 50, 51, 52, 53, 54, 55, 56, 57, 58, 59, 60, 61, 62, 63, 64, 65, 66, 67, 68, 69, 70, 71, 72, 73, 74, 75, 76, 77, 78, 79, 80, 81, 82, 83, 84, 85, 86, 87, 88, 89, 90, 91, 92, 93, 94, 95, 96, 97, 98] (by decide +kernel) (by decide +kernel)
set_option maxRecDepth 20000 in
theorem gX11_sendsOne_X11_puts : GoodIn wsX11_sendsOne (wsV RX11 323 RX11 yX11_puts wsX11_puts) := goodIn_app (goodIn_of _ (by decide +kernel)) ggX11_sendsOne_X11_puts
theorem dX11_sendsOne_0 : decode cX11_sendsOne 0 = .ok (.aload_n 0, 1) := by decide +kernel
theorem dX11_sendsOne_1 : decode cX11_sendsOne 1 = .ok (.iload_n 1, 1) := by decide +kernel
theorem dX11_sendsOne_2 : decode cX11_sendsOne 2 = .ok (.iload_n 2, 1) := by decide +kernel
theorem dX11_sendsOne_3 : decode cX11_sendsOne 3 = .ok (.iconst 0, 1) := by decide +kernel
theorem dX11_sendsOne_4 : decode cX11_sendsOne 4 = .ok (.invokevirtual 323, 3) := by decide +kernel
theorem dX11_sendsOne_7 : decode cX11_sendsOne 7 = .ok (.iload_n 2, 1) := by decide +kernel
theorem dX11_sendsOne_8 : decode cX11_sendsOne 8 = .ok (.aload_n 0, 1) := by decide +kernel
theorem dX11_sendsOne_9 : decode cX11_sendsOne 9 = .ok (.getfield 106, 3) := by decide +kernel
theorem dX11_sendsOne_12 : decode cX11_sendsOne 12 = .ok (.iload_n 1, 1) := by decide +kernel
theorem dX11_sendsOne_13 : decode cX11_sendsOne 13 = .ok (.iaload, 1) := by decide +kernel
theorem dX11_sendsOne_14 : decode cX11_sendsOne 14 = .ok (.if_icmp .ge 33, 3) := by decide +kernel
theorem dX11_sendsOne_17 : decode cX11_sendsOne 17 = .ok (.aload_n 0, 1) := by decide +kernel
theorem dX11_sendsOne_18 : decode cX11_sendsOne 18 = .ok (.getfield 145, 3) := by decide +kernel
theorem dX11_sendsOne_21 : decode cX11_sendsOne 21 = .ok (.iload_n 1, 1) := by decide +kernel
theorem dX11_sendsOne_22 : decode cX11_sendsOne 22 = .ok (.dup2, 1) := by decide +kernel
theorem dX11_sendsOne_23 : decode cX11_sendsOne 23 = .ok (.iaload, 1) := by decide +kernel
theorem dX11_sendsOne_24 : decode cX11_sendsOne 24 = .ok (.iconst 1, 1) := by decide +kernel
theorem dX11_sendsOne_25 : decode cX11_sendsOne 25 = .ok (.iadd, 1) := by decide +kernel
theorem dX11_sendsOne_26 : decode cX11_sendsOne 26 = .ok (.iastore, 1) := by decide +kernel
theorem dX11_sendsOne_27 : decode cX11_sendsOne 27 = .ok (.aload_n 0, 1) := by decide +kernel
theorem dX11_sendsOne_28 : decode cX11_sendsOne 28 = .ok (.getfield 175, 3) := by decide +kernel
theorem dX11_sendsOne_31 : decode cX11_sendsOne 31 = .ok (.iload_n 1, 1) := by decide +kernel
theorem dX11_sendsOne_32 : decode cX11_sendsOne 32 = .ok (.iaload, 1) := by decide +kernel
theorem dX11_sendsOne_33 : decode cX11_sendsOne 33 = .ok (.iload_n 2, 1) := by decide +kernel
theorem dX11_sendsOne_34 : decode cX11_sendsOne 34 = .ok (.if_icmp .ne 49, 3) := by decide +kernel
theorem dX11_sendsOne_37 : decode cX11_sendsOne 37 = .ok (.aload_n 0, 1) := by decide +kernel
theorem dX11_sendsOne_38 : decode cX11_sendsOne 38 = .ok (.getfield 175, 3) := by decide +kernel
theorem dX11_sendsOne_41 : decode cX11_sendsOne 41 = .ok (.iload_n 1, 1) := by decide +kernel
theorem dX11_sendsOne_42 : decode cX11_sendsOne 42 = .ok (.iconst (-1), 1) := by decide +kernel
theorem dX11_sendsOne_43 : decode cX11_sendsOne 43 = .ok (.iastore, 1) := by decide +kernel
theorem dX11_sendsOne_44 : decode cX11_sendsOne 44 = .ok (.goto 39, 3) := by decide +kernel
theorem dX11_sendsOne_47 : decode cX11_sendsOne 47 = .ok (.aload_n 0, 1) := by decide +kernel
theorem dX11_sendsOne_48 : decode cX11_sendsOne 48 = .ok (.getfield 106, 3) := by decide +kernel
theorem dX11_sendsOne_51 : decode cX11_sendsOne 51 = .ok (.iload_n 1, 1) := by decide +kernel
theorem dX11_sendsOne_52 : decode cX11_sendsOne 52 = .ok (.iload_n 2, 1) := by decide +kernel
theorem dX11_sendsOne_53 : decode cX11_sendsOne 53 = .ok (.iconst 1, 1) := by decide +kernel
theorem dX11_sendsOne_54 : decode cX11_sendsOne 54 = .ok (.iadd, 1) := by decide +kernel
theorem dX11_sendsOne_55 : decode cX11_sendsOne 55 = .ok (.iastore, 1) := by decide +kernel
theorem dX11_sendsOne_56 : decode cX11_sendsOne 56 = .ok (.aload_n 0, 1) := by decide +kernel
theorem dX11_sendsOne_57 : decode cX11_sendsOne 57 = .ok (.getfield 175, 3) := by decide +kernel
theorem dX11_sendsOne_60 : decode cX11_sendsOne 60 = .ok (.iload_n 1, 1) := by decide +kernel
theorem dX11_sendsOne_61 : decode cX11_sendsOne 61 = .ok (.iaload, 1) := by decide +kernel
theorem dX11_sendsOne_62 : decode cX11_sendsOne 62 = .ok (.iconst (-1), 1) := by decide +kernel
theorem dX11_sendsOne_63 : decode cX11_sendsOne 63 = .ok (.if_icmp .ne 20, 3) := by decide +kernel
theorem dX11_sendsOne_66 : decode cX11_sendsOne 66 = .ok (.aload_n 0, 1) := by decide +kernel
theorem dX11_sendsOne_67 : decode cX11_sendsOne 67 = .ok (.getfield 175, 3) := by decide +kernel
theorem dX11_sendsOne_70 : decode cX11_sendsOne 70 = .ok (.iload_n 1, 1) := by decide +kernel
theorem dX11_sendsOne_71 : decode cX11_sendsOne 71 = .ok (.iload_n 2, 1) := by decide +kernel
theorem dX11_sendsOne_72 : decode cX11_sendsOne 72 = .ok (.iastore, 1) := by decide +kernel
theorem dX11_sendsOne_73 : decode cX11_sendsOne 73 = .ok (.aload_n 0, 1) := by decide +kernel
theorem dX11_sendsOne_74 : decode cX11_sendsOne 74 = .ok (.getfield 178, 3) := by decide +kernel
theorem dX11_sendsOne_77 : decode cX11_sendsOne 77 = .ok (.iload_n 1, 1) := by decide +kernel
theorem dX11_sendsOne_78 : decode cX11_sendsOne 78 = .ok (.aload_n 0, 1) := by decide +kernel
theorem dX11_sendsOne_79 : decode cX11_sendsOne 79 = .ok (.getfield 207, 3) := by decide +kernel
theorem dX11_sendsOne_82 : decode cX11_sendsOne 82 = .ok (.iastore, 1) := by decide +kernel
theorem dX11_sendsOne_83 : decode cX11_sendsOne 83 = .ok (.aload_n 0, 1) := by decide +kernel
theorem dX11_sendsOne_84 : decode cX11_sendsOne 84 = .ok (.getfield 151, 3) := by decide +kernel
theorem dX11_sendsOne_87 : decode cX11_sendsOne 87 = .ok (.iload_n 1, 1) := by decide +kernel
theorem dX11_sendsOne_88 : decode cX11_sendsOne 88 = .ok (.iaload, 1) := by decide +kernel
theorem dX11_sendsOne_89 : decode cX11_sendsOne 89 = .ok (.iconst (-1), 1) := by decide +kernel
theorem dX11_sendsOne_90 : decode cX11_sendsOne 90 = .ok (.if_icmp .ne 20, 3) := by decide +kernel
theorem dX11_sendsOne_93 : decode cX11_sendsOne 93 = .ok (.aload_n 0, 1) := by decide +kernel
theorem dX11_sendsOne_94 : decode cX11_sendsOne 94 = .ok (.getfield 151, 3) := by decide +kernel
theorem dX11_sendsOne_97 : decode cX11_sendsOne 97 = .ok (.iload_n 1, 1) := by decide +kernel
theorem dX11_sendsOne_98 : decode cX11_sendsOne 98 = .ok (.aload_n 0, 1) := by decide +kernel
theorem dX11_sendsOne_99 : decode cX11_sendsOne 99 = .ok (.getfield 207, 3) := by decide +kernel
theorem dX11_sendsOne_102 : decode cX11_sendsOne 102 = .ok (.aload_n 0, 1) := by decide +kernel
theorem dX11_sendsOne_103 : decode cX11_sendsOne 103 = .ok (.getfield 115, 3) := by decide +kernel
theorem dX11_sendsOne_106 : decode cX11_sendsOne 106 = .ok (.iload_n 1, 1) := by decide +kernel
theorem dX11_sendsOne_107 : decode cX11_sendsOne 107 = .ok (.iaload, 1) := by decide +kernel
theorem dX11_sendsOne_108 : decode cX11_sendsOne 108 = .ok (.iadd, 1) := by decide +kernel
theorem dX11_sendsOne_109 : decode cX11_sendsOne 109 = .ok (.iastore, 1) := by decide +kernel
theorem dX11_sendsOne_110 : decode cX11_sendsOne 110 = .ok (.return_, 1) := by decide +kernel
set_option maxRecDepth 20000 in
theorem ggX11_sendsAgain_X11_sendsOne : GoodIn wsX11_sendsAgain wsX11_sendsOne := goodIn_r _ [6, 7, 8, 9, 10, 11, 12, 13, 14, 15, 16, 5, 17, 18, 19, 20, 21, 22, 23, 24, 25, 26, 27, 28, 29, 30, 31, 32, 33, 34, 35, 36, 37, 38, 39, 40, 41, 42, 43, 44, 45, 46, 47, 48, 49, 50, 51, 52, 53, 54, 55, 56, 57, 58, 59, 60, 61, 62, 63, 64, 65, 66, 67, 68, 69, 70, 71, 72, 73, 74, 75, 76, 77, 78, 79, 80, 81, 82, 83, 84, 85, 86, 87, 88, 89, 90, 91, 92, 93, 94, 95, 96, 97, 98, 99, 100, 101, 102, 103] (by decide +kernel) (by decide +kernel)
set_option maxRecDepth 20000 in
theorem gX11_sendsAgain_X11_sendsOne : GoodIn wsX11_sendsAgain (wsV RX11 332 RX11 yX11_sendsOne wsX11_sendsOne) := goodIn_app (goodIn_of _ (by decide +kernel)) ggX11_sendsAgain_X11_sendsOne
theorem dX11_sendsAgain_0 : decode cX11_sendsAgain 0 = .ok (.aload_n 0, 1) := by decide +kernel
theorem dX11_sendsAgain_1 : decode cX11_sendsAgain 1 = .ok (.getfield 184, 3) := by decide +kernel
theorem dX11_sendsAgain_4 : decode cX11_sendsAgain 4 = .ok (.sipush 512, 3) := by decide +kernel
theorem dX11_sendsAgain_7 : decode cX11_sendsAgain 7 = .ok (.iload_n 1, 1) := by decide +kernel
theorem dX11_sendsAgain_8 : decode cX11_sendsAgain 8 = .ok (.imul, 1) := by decide +kernel
theorem dX11_sendsAgain_9 : decode cX11_sendsAgain 9 = .ok (.iload_n 2, 1) := by decide +kernel
theorem dX11_sendsAgain_10 : decode cX11_sendsAgain 10 = .ok (.sipush 512, 3) := by decide +kernel
theorem dX11_sendsAgain_13 : decode cX11_sendsAgain 13 = .ok (.irem, 1) := by decide +kernel
theorem dX11_sendsAgain_14 : decode cX11_sendsAgain 14 = .ok (.iadd, 1) := by decide +kernel
theorem dX11_sendsAgain_15 : decode cX11_sendsAgain 15 = .ok (.iconst 1, 1) := by decide +kernel
theorem dX11_sendsAgain_16 : decode cX11_sendsAgain 16 = .ok (.bastore, 1) := by decide +kernel
theorem dX11_sendsAgain_17 : decode cX11_sendsAgain 17 = .ok (.aload_n 0, 1) := by decide +kernel
theorem dX11_sendsAgain_18 : decode cX11_sendsAgain 18 = .ok (.iload_n 1, 1) := by decide +kernel
theorem dX11_sendsAgain_19 : decode cX11_sendsAgain 19 = .ok (.iload_n 2, 1) := by decide +kernel
theorem dX11_sendsAgain_20 : decode cX11_sendsAgain 20 = .ok (.invokevirtual 332, 3) := by decide +kernel
theorem dX11_sendsAgain_23 : decode cX11_sendsAgain 23 = .ok (.return_, 1) := by decide +kernel
theorem dX11_pipe_0 : decode cX11_pipe 0 = .ok (.iconst 0, 1) := by decide +kernel
theorem dX11_pipe_1 : decode cX11_pipe 1 = .ok (.istore_n 2, 1) := by decide +kernel
theorem dX11_pipe_2 : decode cX11_pipe 2 = .ok (.iconst 0, 1) := by decide +kernel
theorem dX11_pipe_3 : decode cX11_pipe 3 = .ok (.istore_n 3, 1) := by decide +kernel
theorem dX11_pipe_4 : decode cX11_pipe 4 = .ok (.aload_n 0, 1) := by decide +kernel
theorem dX11_pipe_5 : decode cX11_pipe 5 = .ok (.iconst (-1), 1) := by decide +kernel
theorem dX11_pipe_6 : decode cX11_pipe 6 = .ok (.putfield 335, 3) := by decide +kernel
theorem dX11_pipe_9 : decode cX11_pipe 9 = .ok (.aload_n 0, 1) := by decide +kernel
theorem dX11_pipe_10 : decode cX11_pipe 10 = .ok (.getfield 106, 3) := by decide +kernel
theorem dX11_pipe_13 : decode cX11_pipe 13 = .ok (.iload_n 1, 1) := by decide +kernel
theorem dX11_pipe_14 : decode cX11_pipe 14 = .ok (.iaload, 1) := by decide +kernel
theorem dX11_pipe_15 : decode cX11_pipe 15 = .ok (.iconst 1, 1) := by decide +kernel
theorem dX11_pipe_16 : decode cX11_pipe 16 = .ok (.isub, 1) := by decide +kernel
theorem dX11_pipe_17 : decode cX11_pipe 17 = .ok (.istore 4, 2) := by decide +kernel
theorem dX11_pipe_19 : decode cX11_pipe 19 = .ok (.iload 4, 2) := by decide +kernel
theorem dX11_pipe_21 : decode cX11_pipe 21 = .ok (.aload_n 0, 1) := by decide +kernel
theorem dX11_pipe_22 : decode cX11_pipe 22 = .ok (.getfield 100, 3) := by decide +kernel
theorem dX11_pipe_25 : decode cX11_pipe 25 = .ok (.iload_n 1, 1) := by decide +kernel
theorem dX11_pipe_26 : decode cX11_pipe 26 = .ok (.iaload, 1) := by decide +kernel
theorem dX11_pipe_27 : decode cX11_pipe 27 = .ok (.if_icmp .lt 131, 3) := by decide +kernel
theorem dX11_pipe_30 : decode cX11_pipe 30 = .ok (.aload_n 0, 1) := by decide +kernel
theorem dX11_pipe_31 : decode cX11_pipe 31 = .ok (.getfield 181, 3) := by decide +kernel
theorem dX11_pipe_34 : decode cX11_pipe 34 = .ok (.sipush 200, 3) := by decide +kernel
theorem dX11_pipe_37 : decode cX11_pipe 37 = .ok (.iload_n 1, 1) := by decide +kernel
theorem dX11_pipe_38 : decode cX11_pipe 38 = .ok (.imul, 1) := by decide +kernel
theorem dX11_pipe_39 : decode cX11_pipe 39 = .ok (.iload 4, 2) := by decide +kernel
theorem dX11_pipe_41 : decode cX11_pipe 41 = .ok (.iadd, 1) := by decide +kernel
theorem dX11_pipe_42 : decode cX11_pipe 42 = .ok (.aload_n 0, 1) := by decide +kernel
theorem dX11_pipe_43 : decode cX11_pipe 43 = .ok (.getfield 100, 3) := by decide +kernel
theorem dX11_pipe_46 : decode cX11_pipe 46 = .ok (.iload_n 1, 1) := by decide +kernel
theorem dX11_pipe_47 : decode cX11_pipe 47 = .ok (.iaload, 1) := by decide +kernel
theorem dX11_pipe_48 : decode cX11_pipe 48 = .ok (.isub, 1) := by decide +kernel
theorem dX11_pipe_49 : decode cX11_pipe 49 = .ok (.baload, 1) := by decide +kernel
theorem dX11_pipe_50 : decode cX11_pipe 50 = .ok (.ifCond .eq 9, 3) := by decide +kernel
theorem dX11_pipe_53 : decode cX11_pipe 53 = .ok (.iinc 3 1, 3) := by decide +kernel
theorem dX11_pipe_56 : decode cX11_pipe 56 = .ok (.goto 96, 3) := by decide +kernel
theorem dX11_pipe_59 : decode cX11_pipe 59 = .ok (.iload 4, 2) := by decide +kernel
theorem dX11_pipe_61 : decode cX11_pipe 61 = .ok (.aload_n 0, 1) := by decide +kernel
theorem dX11_pipe_62 : decode cX11_pipe 62 = .ok (.getfield 136, 3) := by decide +kernel
theorem dX11_pipe_65 : decode cX11_pipe 65 = .ok (.iload_n 1, 1) := by decide +kernel
theorem dX11_pipe_66 : decode cX11_pipe 66 = .ok (.iaload, 1) := by decide +kernel
theorem dX11_pipe_67 : decode cX11_pipe 67 = .ok (.if_icmp .eq 8, 3) := by decide +kernel
theorem dX11_pipe_70 : decode cX11_pipe 70 = .ok (.iload_n 3, 1) := by decide +kernel
theorem dX11_pipe_71 : decode cX11_pipe 71 = .ok (.iconst 3, 1) := by decide +kernel
theorem dX11_pipe_72 : decode cX11_pipe 72 = .ok (.if_icmp .lt 7, 3) := by decide +kernel
theorem dX11_pipe_75 : decode cX11_pipe 75 = .ok (.iconst 1, 1) := by decide +kernel
theorem dX11_pipe_76 : decode cX11_pipe 76 = .ok (.goto 4, 3) := by decide +kernel
theorem dX11_pipe_79 : decode cX11_pipe 79 = .ok (.iconst 0, 1) := by decide +kernel
theorem dX11_pipe_80 : decode cX11_pipe 80 = .ok (.istore 5, 2) := by decide +kernel
theorem dX11_pipe_82 : decode cX11_pipe 82 = .ok (.aload_n 0, 1) := by decide +kernel
theorem dX11_pipe_83 : decode cX11_pipe 83 = .ok (.getfield 184, 3) := by decide +kernel
theorem dX11_pipe_86 : decode cX11_pipe 86 = .ok (.sipush 512, 3) := by decide +kernel
theorem dX11_pipe_89 : decode cX11_pipe 89 = .ok (.iload_n 1, 1) := by decide +kernel
theorem dX11_pipe_90 : decode cX11_pipe 90 = .ok (.imul, 1) := by decide +kernel
theorem dX11_pipe_91 : decode cX11_pipe 91 = .ok (.iload 4, 2) := by decide +kernel
theorem dX11_pipe_93 : decode cX11_pipe 93 = .ok (.sipush 512, 3) := by decide +kernel
theorem dX11_pipe_96 : decode cX11_pipe 96 = .ok (.irem, 1) := by decide +kernel
theorem dX11_pipe_97 : decode cX11_pipe 97 = .ok (.iadd, 1) := by decide +kernel
theorem dX11_pipe_98 : decode cX11_pipe 98 = .ok (.baload, 1) := by decide +kernel
theorem dX11_pipe_99 : decode cX11_pipe 99 = .ok (.istore 6, 2) := by decide +kernel
theorem dX11_pipe_101 : decode cX11_pipe 101 = .ok (.iload_n 2, 1) := by decide +kernel
theorem dX11_pipe_102 : decode cX11_pipe 102 = .ok (.iload 4, 2) := by decide +kernel
theorem dX11_pipe_104 : decode cX11_pipe 104 = .ok (.aload_n 0, 1) := by decide +kernel
theorem dX11_pipe_105 : decode cX11_pipe 105 = .ok (.getfield 103, 3) := by decide +kernel
theorem dX11_pipe_108 : decode cX11_pipe 108 = .ok (.iload_n 1, 1) := by decide +kernel
theorem dX11_pipe_109 : decode cX11_pipe 109 = .ok (.iaload, 1) := by decide +kernel
theorem dX11_pipe_110 : decode cX11_pipe 110 = .ok (.if_icmp .ge 12, 3) := by decide +kernel
theorem dX11_pipe_113 : decode cX11_pipe 113 = .ok (.iload 5, 2) := by decide +kernel
theorem dX11_pipe_115 : decode cX11_pipe 115 = .ok (.ifCond .ne 7, 3) := by decide +kernel
theorem dX11_pipe_118 : decode cX11_pipe 118 = .ok (.iconst 1, 1) := by decide +kernel
theorem dX11_pipe_119 : decode cX11_pipe 119 = .ok (.goto 4, 3) := by decide +kernel
theorem dX11_pipe_122 : decode cX11_pipe 122 = .ok (.iconst 0, 1) := by decide +kernel
theorem dX11_pipe_123 : decode cX11_pipe 123 = .ok (.iload 6, 2) := by decide +kernel
theorem dX11_pipe_125 : decode cX11_pipe 125 = .ok (.ifCond .eq 7, 3) := by decide +kernel
theorem dX11_pipe_128 : decode cX11_pipe 128 = .ok (.iconst 1, 1) := by decide +kernel
theorem dX11_pipe_129 : decode cX11_pipe 129 = .ok (.goto 4, 3) := by decide +kernel
theorem dX11_pipe_132 : decode cX11_pipe 132 = .ok (.iconst 0, 1) := by decide +kernel
theorem dX11_pipe_133 : decode cX11_pipe 133 = .ok (.iadd, 1) := by decide +kernel
theorem dX11_pipe_134 : decode cX11_pipe 134 = .ok (.iadd, 1) := by decide +kernel
theorem dX11_pipe_135 : decode cX11_pipe 135 = .ok (.istore_n 2, 1) := by decide +kernel
theorem dX11_pipe_136 : decode cX11_pipe 136 = .ok (.iload 5, 2) := by decide +kernel
theorem dX11_pipe_138 : decode cX11_pipe 138 = .ok (.ifCond .eq 14, 3) := by decide +kernel
theorem dX11_pipe_141 : decode cX11_pipe 141 = .ok (.iload 6, 2) := by decide +kernel
theorem dX11_pipe_143 : decode cX11_pipe 143 = .ok (.ifCond .ne 9, 3) := by decide +kernel
theorem dX11_pipe_146 : decode cX11_pipe 146 = .ok (.aload_n 0, 1) := by decide +kernel
theorem dX11_pipe_147 : decode cX11_pipe 147 = .ok (.iload 4, 2) := by decide +kernel
theorem dX11_pipe_149 : decode cX11_pipe 149 = .ok (.putfield 335, 3) := by decide +kernel
theorem dX11_pipe_152 : decode cX11_pipe 152 = .ok (.iinc 4 (-1), 3) := by decide +kernel
theorem dX11_pipe_155 : decode cX11_pipe 155 = .ok (.goto (-136), 3) := by decide +kernel
theorem dX11_pipe_158 : decode cX11_pipe 158 = .ok (.iload_n 2, 1) := by decide +kernel
theorem dX11_pipe_159 : decode cX11_pipe 159 = .ok (.ireturn, 1) := by decide +kernel
set_option maxRecDepth 20000 in
theorem ggX11_out_X11_pipe : GoodIn wsX11_out wsX11_pipe := goodIn_r _ [9, 10, 11, 4, 12, 13, 14, 3, 15, 16, 17, 18, 19, 20, 21, 22, 23, 24, 25, 26, 27, 28, 29, 30, 31, 32, 33, 34, 35, 36, 37, 38, 39, 40, 41, 42, 43, 44, 45, 46, 47, 48, 49, 50, 51, 52, 53, 54, 55, 56, 57, 58, 59, 60, 61, 62, 63, 64, 65, 66, 67, 68, 69, 70, 71, 72, 73, 74, 75, 76, 77, 78, 79, 80, 81, 82, 83, 84, 85, 86, 87, 88] (by decide +kernel) (by decide +kernel)
set_option maxRecDepth 20000 in
theorem gX11_out_X11_pipe : GoodIn wsX11_out (wsV RX11 338 RX11 yX11_pipe wsX11_pipe) := goodIn_app (goodIn_of _ (by decide +kernel)) ggX11_out_X11_pipe
theorem dX11_out_0 : decode cX11_out 0 = .ok (.aload_n 0, 1) := by decide +kernel
theorem dX11_out_1 : decode cX11_out 1 = .ok (.getfield 94, 3) := by decide +kernel
theorem dX11_out_4 : decode cX11_out 4 = .ok (.iload_n 1, 1) := by decide +kernel
theorem dX11_out_5 : decode cX11_out 5 = .ok (.iaload, 1) := by decide +kernel
theorem dX11_out_6 : decode cX11_out 6 = .ok (.iconst 3, 1) := by decide +kernel
theorem dX11_out_7 : decode cX11_out 7 = .ok (.if_icmp .ne 20, 3) := by decide +kernel
theorem dX11_out_10 : decode cX11_out 10 = .ok (.aload_n 0, 1) := by decide +kernel
theorem dX11_out_11 : decode cX11_out 11 = .ok (.getfield 130, 3) := by decide +kernel
theorem dX11_out_14 : decode cX11_out 14 = .ok (.iload_n 1, 1) := by decide +kernel
theorem dX11_out_15 : decode cX11_out 15 = .ok (.baload, 1) := by decide +kernel
theorem dX11_out_16 : decode cX11_out 16 = .ok (.ifCond .eq 11, 3) := by decide +kernel
theorem dX11_out_19 : decode cX11_out 19 = .ok (.aload_n 0, 1) := by decide +kernel
theorem dX11_out_20 : decode cX11_out 20 = .ok (.iload_n 1, 1) := by decide +kernel
theorem dX11_out_21 : decode cX11_out 21 = .ok (.invokevirtual 338, 3) := by decide +kernel
theorem dX11_out_24 : decode cX11_out 24 = .ok (.goto 16, 3) := by decide +kernel
theorem dX11_out_27 : decode cX11_out 27 = .ok (.aload_n 0, 1) := by decide +kernel
theorem dX11_out_28 : decode cX11_out 28 = .ok (.getfield 103, 3) := by decide +kernel
theorem dX11_out_31 : decode cX11_out 31 = .ok (.iload_n 1, 1) := by decide +kernel
theorem dX11_out_32 : decode cX11_out 32 = .ok (.iaload, 1) := by decide +kernel
theorem dX11_out_33 : decode cX11_out 33 = .ok (.aload_n 0, 1) := by decide +kernel
theorem dX11_out_34 : decode cX11_out 34 = .ok (.getfield 100, 3) := by decide +kernel
theorem dX11_out_37 : decode cX11_out 37 = .ok (.iload_n 1, 1) := by decide +kernel
theorem dX11_out_38 : decode cX11_out 38 = .ok (.iaload, 1) := by decide +kernel
theorem dX11_out_39 : decode cX11_out 39 = .ok (.isub, 1) := by decide +kernel
theorem dX11_out_40 : decode cX11_out 40 = .ok (.ireturn, 1) := by decide +kernel
theorem dX11_mayNext_0 : decode cX11_mayNext 0 = .ok (.aload_n 0, 1) := by decide +kernel
theorem dX11_mayNext_1 : decode cX11_mayNext 1 = .ok (.getfield 103, 3) := by decide +kernel
theorem dX11_mayNext_4 : decode cX11_mayNext 4 = .ok (.iload_n 1, 1) := by decide +kernel
theorem dX11_mayNext_5 : decode cX11_mayNext 5 = .ok (.iaload, 1) := by decide +kernel
theorem dX11_mayNext_6 : decode cX11_mayNext 6 = .ok (.aload_n 0, 1) := by decide +kernel
theorem dX11_mayNext_7 : decode cX11_mayNext 7 = .ok (.getfield 97, 3) := by decide +kernel
theorem dX11_mayNext_10 : decode cX11_mayNext 10 = .ok (.iload_n 1, 1) := by decide +kernel
theorem dX11_mayNext_11 : decode cX11_mayNext 11 = .ok (.iaload, 1) := by decide +kernel
theorem dX11_mayNext_12 : decode cX11_mayNext 12 = .ok (.if_icmp .ge 29, 3) := by decide +kernel
theorem dX11_mayNext_15 : decode cX11_mayNext 15 = .ok (.aload_n 0, 1) := by decide +kernel
theorem dX11_mayNext_16 : decode cX11_mayNext 16 = .ok (.getfield 103, 3) := by decide +kernel
theorem dX11_mayNext_19 : decode cX11_mayNext 19 = .ok (.iload_n 1, 1) := by decide +kernel
theorem dX11_mayNext_20 : decode cX11_mayNext 20 = .ok (.iaload, 1) := by decide +kernel
theorem dX11_mayNext_21 : decode cX11_mayNext 21 = .ok (.aload_n 0, 1) := by decide +kernel
theorem dX11_mayNext_22 : decode cX11_mayNext 22 = .ok (.getfield 100, 3) := by decide +kernel
theorem dX11_mayNext_25 : decode cX11_mayNext 25 = .ok (.iload_n 1, 1) := by decide +kernel
theorem dX11_mayNext_26 : decode cX11_mayNext 26 = .ok (.iaload, 1) := by decide +kernel
theorem dX11_mayNext_27 : decode cX11_mayNext 27 = .ok (.aload_n 0, 1) := by decide +kernel
theorem dX11_mayNext_28 : decode cX11_mayNext 28 = .ok (.getfield 148, 3) := by decide +kernel
theorem dX11_mayNext_31 : decode cX11_mayNext 31 = .ok (.iload_n 1, 1) := by decide +kernel
theorem dX11_mayNext_32 : decode cX11_mayNext 32 = .ok (.iaload, 1) := by decide +kernel
theorem dX11_mayNext_33 : decode cX11_mayNext 33 = .ok (.iadd, 1) := by decide +kernel
theorem dX11_mayNext_34 : decode cX11_mayNext 34 = .ok (.if_icmp .ge 7, 3) := by decide +kernel
theorem dX11_mayNext_37 : decode cX11_mayNext 37 = .ok (.iconst 1, 1) := by decide +kernel
theorem dX11_mayNext_38 : decode cX11_mayNext 38 = .ok (.goto 4, 3) := by decide +kernel
theorem dX11_mayNext_41 : decode cX11_mayNext 41 = .ok (.iconst 0, 1) := by decide +kernel
theorem dX11_mayNext_42 : decode cX11_mayNext 42 = .ok (.ireturn, 1) := by decide +kernel
set_option maxRecDepth 20000 in
theorem ggX11_sends_X11_out : GoodIn wsX11_sends wsX11_out := goodIn_r _ [16, 2, 3, 5, 7, 17, 18, 19, 15, 20, 4, 21, 22, 23, 24, 56, 57, 58, 59, 60, 61, 62, 63, 64, 65, 66, 67, 68, 69, 70, 71, 72, 73, 74, 75, 76, 77, 78, 79, 80, 81, 82, 83, 84, 85, 86, 87, 88, 89, 90, 91, 92, 93, 94, 95, 96, 97, 98, 99, 100, 101, 102, 103, 104, 105, 106, 107, 108, 109, 110, 111, 112, 113, 114, 115, 116, 117, 118, 119, 120, 121, 122, 123, 124, 125, 126, 127, 128, 129] (by decide +kernel) (by decide +kernel)
set_option maxRecDepth 20000 in
theorem gX11_sends_X11_out : GoodIn wsX11_sends (wsV RX11 341 RX11 yX11_out wsX11_out) := goodIn_app (goodIn_of _ (by decide +kernel)) ggX11_sends_X11_out
set_option maxRecDepth 20000 in
theorem ggX11_sends_X11_sendsAgain : GoodIn wsX11_sends wsX11_sendsAgain := goodIn_r _ [28, 24, 29, 30, 31, 15, 32, 21, 33, 34, 35, 10, 9, 11, 36, 37, 38, 39, 40, 41, 42, 43, 44, 45, 46, 47, 48, 49, 50, 51, 56, 57, 58, 59, 60, 61, 62, 63, 64, 65, 66, 67, 68, 69, 70, 71, 72, 73, 74, 75, 76, 77, 78, 79, 80, 81, 82, 83, 84, 85, 86, 87, 88, 89, 90, 91, 92, 93, 94, 95, 96, 97, 98, 99, 100, 101, 102, 103, 104, 105, 106, 107, 108, 109, 110, 111, 112, 113, 114, 115, 116, 117, 118, 119, 120, 121, 122, 123, 124, 125, 126, 127, 128, 129] (by decide +kernel) (by decide +kernel)
set_option maxRecDepth 20000 in
theorem gX11_sends_X11_sendsAgain : GoodIn wsX11_sends (wsV RX11 301 RX11 yX11_sendsAgain wsX11_sendsAgain) := goodIn_app (goodIn_of _ (by decide +kernel)) ggX11_sends_X11_sendsAgain
set_option maxRecDepth 20000 in
theorem ggX11_sends_X11_mayNext : GoodIn wsX11_sends wsX11_mayNext := goodIn_r _ [55, 5, 8, 7, 6, 56, 57, 58, 59, 60, 61, 62, 63, 64, 65, 66, 67, 68, 69, 70, 71, 72, 73, 74, 75, 76, 77, 78, 79, 80, 81, 82, 83, 84, 85, 86, 87, 88, 89, 90, 91, 92, 93, 94, 95, 96, 97, 98, 99, 100, 101, 102, 103, 104, 105, 106, 107, 108, 109, 110, 111, 112, 113, 114, 115, 116, 117, 118, 119, 120, 121, 122, 123, 124, 125, 126, 127, 128, 129] (by decide +kernel) (by decide +kernel)
set_option maxRecDepth 20000 in
theorem gX11_sends_X11_mayNext : GoodIn wsX11_sends (wsV RX11 344 RX11 yX11_mayNext wsX11_mayNext) := goodIn_app (goodIn_of _ (by decide +kernel)) ggX11_sends_X11_mayNext
set_option maxRecDepth 20000 in
theorem ggX11_sends_X11_sendsOne : GoodIn wsX11_sends wsX11_sendsOne := goodIn_r _ [32, 21, 33, 34, 35, 10, 9, 11, 36, 37, 38, 15, 39, 40, 41, 42, 43, 44, 45, 46, 47, 48, 49, 50, 51, 56, 57, 58, 59, 60, 61, 62, 63, 64, 65, 66, 67, 68, 69, 70, 71, 72, 73, 74, 75, 76, 77, 78, 79, 80, 81, 82, 83, 84, 85, 86, 87, 88, 89, 90, 91, 92, 93, 94, 95, 96, 97, 98, 99, 100, 101, 102, 103, 104, 105, 106, 107, 108, 109, 110, 111, 112, 113, 114, 115, 116, 117, 118, 119, 120, 121, 122, 123, 124, 125, 126, 127, 128, 129] (by decide +kernel) (by decide +kernel)
set_option maxRecDepth 20000 in
theorem gX11_sends_X11_sendsOne : GoodIn wsX11_sends (wsV RX11 332 RX11 yX11_sendsOne wsX11_sendsOne) := goodIn_app (goodIn_of _ (by decide +kernel)) ggX11_sends_X11_sendsOne
theorem dX11_sends_0 : decode cX11_sends 0 = .ok (.aload_n 0, 1) := by decide +kernel
theorem dX11_sends_1 : decode cX11_sends 1 = .ok (.iload_n 1, 1) := by decide +kernel
theorem dX11_sends_2 : decode cX11_sends 2 = .ok (.invokevirtual 341, 3) := by decide +kernel
theorem dX11_sends_5 : decode cX11_sends 5 = .ok (.aload_n 0, 1) := by decide +kernel
theorem dX11_sends_6 : decode cX11_sends 6 = .ok (.getfield 109, 3) := by decide +kernel
theorem dX11_sends_9 : decode cX11_sends 9 = .ok (.iload_n 1, 1) := by decide +kernel
theorem dX11_sends_10 : decode cX11_sends 10 = .ok (.iaload, 1) := by decide +kernel
theorem dX11_sends_11 : decode cX11_sends 11 = .ok (.sipush 1024, 3) := by decide +kernel
theorem dX11_sends_14 : decode cX11_sends 14 = .ok (.idiv, 1) := by decide +kernel
theorem dX11_sends_15 : decode cX11_sends 15 = .ok (.if_icmp .ge 77, 3) := by decide +kernel
theorem dX11_sends_18 : decode cX11_sends 18 = .ok (.aload_n 0, 1) := by decide +kernel
theorem dX11_sends_19 : decode cX11_sends 19 = .ok (.getfield 94, 3) := by decide +kernel
theorem dX11_sends_22 : decode cX11_sends 22 = .ok (.iload_n 1, 1) := by decide +kernel
theorem dX11_sends_23 : decode cX11_sends 23 = .ok (.iaload, 1) := by decide +kernel
theorem dX11_sends_24 : decode cX11_sends 24 = .ok (.iconst 3, 1) := by decide +kernel
theorem dX11_sends_25 : decode cX11_sends 25 = .ok (.if_icmp .ne 32, 3) := by decide +kernel
theorem dX11_sends_28 : decode cX11_sends 28 = .ok (.aload_n 0, 1) := by decide +kernel
theorem dX11_sends_29 : decode cX11_sends 29 = .ok (.getfield 130, 3) := by decide +kernel
theorem dX11_sends_32 : decode cX11_sends 32 = .ok (.iload_n 1, 1) := by decide +kernel
theorem dX11_sends_33 : decode cX11_sends 33 = .ok (.baload, 1) := by decide +kernel
theorem dX11_sends_34 : decode cX11_sends 34 = .ok (.ifCond .eq 23, 3) := by decide +kernel
theorem dX11_sends_37 : decode cX11_sends 37 = .ok (.aload_n 0, 1) := by decide +kernel
theorem dX11_sends_38 : decode cX11_sends 38 = .ok (.getfield 335, 3) := by decide +kernel
theorem dX11_sends_41 : decode cX11_sends 41 = .ok (.iconst (-1), 1) := by decide +kernel
theorem dX11_sends_42 : decode cX11_sends 42 = .ok (.if_icmp .eq 15, 3) := by decide +kernel
theorem dX11_sends_45 : decode cX11_sends 45 = .ok (.aload_n 0, 1) := by decide +kernel
theorem dX11_sends_46 : decode cX11_sends 46 = .ok (.iload_n 1, 1) := by decide +kernel
theorem dX11_sends_47 : decode cX11_sends 47 = .ok (.aload_n 0, 1) := by decide +kernel
theorem dX11_sends_48 : decode cX11_sends 48 = .ok (.getfield 335, 3) := by decide +kernel
theorem dX11_sends_51 : decode cX11_sends 51 = .ok (.invokevirtual 301, 3) := by decide +kernel
theorem dX11_sends_54 : decode cX11_sends 54 = .ok (.goto (-54), 3) := by decide +kernel
theorem dX11_sends_57 : decode cX11_sends 57 = .ok (.aload_n 0, 1) := by decide +kernel
theorem dX11_sends_58 : decode cX11_sends 58 = .ok (.iload_n 1, 1) := by decide +kernel
theorem dX11_sends_59 : decode cX11_sends 59 = .ok (.invokevirtual 344, 3) := by decide +kernel
theorem dX11_sends_62 : decode cX11_sends 62 = .ok (.ifCond .ne 6, 3) := by decide +kernel
theorem dX11_sends_65 : decode cX11_sends 65 = .ok (.goto 27, 3) := by decide +kernel
theorem dX11_sends_68 : decode cX11_sends 68 = .ok (.aload_n 0, 1) := by decide +kernel
theorem dX11_sends_69 : decode cX11_sends 69 = .ok (.iload_n 1, 1) := by decide +kernel
theorem dX11_sends_70 : decode cX11_sends 70 = .ok (.aload_n 0, 1) := by decide +kernel
theorem dX11_sends_71 : decode cX11_sends 71 = .ok (.getfield 103, 3) := by decide +kernel
theorem dX11_sends_74 : decode cX11_sends 74 = .ok (.iload_n 1, 1) := by decide +kernel
theorem dX11_sends_75 : decode cX11_sends 75 = .ok (.iaload, 1) := by decide +kernel
theorem dX11_sends_76 : decode cX11_sends 76 = .ok (.invokevirtual 332, 3) := by decide +kernel
theorem dX11_sends_79 : decode cX11_sends 79 = .ok (.aload_n 0, 1) := by decide +kernel
theorem dX11_sends_80 : decode cX11_sends 80 = .ok (.getfield 103, 3) := by decide +kernel
theorem dX11_sends_83 : decode cX11_sends 83 = .ok (.iload_n 1, 1) := by decide +kernel
theorem dX11_sends_84 : decode cX11_sends 84 = .ok (.dup2, 1) := by decide +kernel
theorem dX11_sends_85 : decode cX11_sends 85 = .ok (.iaload, 1) := by decide +kernel
theorem dX11_sends_86 : decode cX11_sends 86 = .ok (.iconst 1, 1) := by decide +kernel
theorem dX11_sends_87 : decode cX11_sends 87 = .ok (.iadd, 1) := by decide +kernel
theorem dX11_sends_88 : decode cX11_sends 88 = .ok (.iastore, 1) := by decide +kernel
theorem dX11_sends_89 : decode cX11_sends 89 = .ok (.goto (-89), 3) := by decide +kernel
theorem dX11_sends_92 : decode cX11_sends 92 = .ok (.aload_n 0, 1) := by decide +kernel
theorem dX11_sends_93 : decode cX11_sends 93 = .ok (.getfield 148, 3) := by decide +kernel
theorem dX11_sends_96 : decode cX11_sends 96 = .ok (.iload_n 1, 1) := by decide +kernel
theorem dX11_sends_97 : decode cX11_sends 97 = .ok (.iaload, 1) := by decide +kernel
theorem dX11_sends_98 : decode cX11_sends 98 = .ok (.ifCond .ne 60, 3) := by decide +kernel
theorem dX11_sends_101 : decode cX11_sends 101 = .ok (.aload_n 0, 1) := by decide +kernel
theorem dX11_sends_102 : decode cX11_sends 102 = .ok (.getfield 103, 3) := by decide +kernel
theorem dX11_sends_105 : decode cX11_sends 105 = .ok (.iload_n 1, 1) := by decide +kernel
theorem dX11_sends_106 : decode cX11_sends 106 = .ok (.iaload, 1) := by decide +kernel
theorem dX11_sends_107 : decode cX11_sends 107 = .ok (.aload_n 0, 1) := by decide +kernel
theorem dX11_sends_108 : decode cX11_sends 108 = .ok (.getfield 100, 3) := by decide +kernel
theorem dX11_sends_111 : decode cX11_sends 111 = .ok (.iload_n 1, 1) := by decide +kernel
theorem dX11_sends_112 : decode cX11_sends 112 = .ok (.iaload, 1) := by decide +kernel
theorem dX11_sends_113 : decode cX11_sends 113 = .ok (.if_icmp .ne 45, 3) := by decide +kernel
theorem dX11_sends_116 : decode cX11_sends 116 = .ok (.aload_n 0, 1) := by decide +kernel
theorem dX11_sends_117 : decode cX11_sends 117 = .ok (.getfield 103, 3) := by decide +kernel
theorem dX11_sends_120 : decode cX11_sends 120 = .ok (.iload_n 1, 1) := by decide +kernel
theorem dX11_sends_121 : decode cX11_sends 121 = .ok (.iaload, 1) := by decide +kernel
theorem dX11_sends_122 : decode cX11_sends 122 = .ok (.aload_n 0, 1) := by decide +kernel
theorem dX11_sends_123 : decode cX11_sends 123 = .ok (.getfield 97, 3) := by decide +kernel
theorem dX11_sends_126 : decode cX11_sends 126 = .ok (.iload_n 1, 1) := by decide +kernel
theorem dX11_sends_127 : decode cX11_sends 127 = .ok (.iaload, 1) := by decide +kernel
theorem dX11_sends_128 : decode cX11_sends 128 = .ok (.if_icmp .ge 30, 3) := by decide +kernel
theorem dX11_sends_131 : decode cX11_sends 131 = .ok (.aload_n 0, 1) := by decide +kernel
theorem dX11_sends_132 : decode cX11_sends 132 = .ok (.getfield 151, 3) := by decide +kernel
theorem dX11_sends_135 : decode cX11_sends 135 = .ok (.iload_n 1, 1) := by decide +kernel
theorem dX11_sends_136 : decode cX11_sends 136 = .ok (.iaload, 1) := by decide +kernel
theorem dX11_sends_137 : decode cX11_sends 137 = .ok (.iconst (-1), 1) := by decide +kernel
theorem dX11_sends_138 : decode cX11_sends 138 = .ok (.if_icmp .ne 20, 3) := by decide +kernel
theorem dX11_sends_141 : decode cX11_sends 141 = .ok (.aload_n 0, 1) := by decide +kernel
theorem dX11_sends_142 : decode cX11_sends 142 = .ok (.getfield 151, 3) := by decide +kernel
theorem dX11_sends_145 : decode cX11_sends 145 = .ok (.iload_n 1, 1) := by decide +kernel
theorem dX11_sends_146 : decode cX11_sends 146 = .ok (.aload_n 0, 1) := by decide +kernel
theorem dX11_sends_147 : decode cX11_sends 147 = .ok (.getfield 207, 3) := by decide +kernel
theorem dX11_sends_150 : decode cX11_sends 150 = .ok (.aload_n 0, 1) := by decide +kernel
theorem dX11_sends_151 : decode cX11_sends 151 = .ok (.getfield 115, 3) := by decide +kernel
theorem dX11_sends_154 : decode cX11_sends 154 = .ok (.iload_n 1, 1) := by decide +kernel
theorem dX11_sends_155 : decode cX11_sends 155 = .ok (.iaload, 1) := by decide +kernel
theorem dX11_sends_156 : decode cX11_sends 156 = .ok (.iadd, 1) := by decide +kernel
theorem dX11_sends_157 : decode cX11_sends 157 = .ok (.iastore, 1) := by decide +kernel
theorem dX11_sends_158 : decode cX11_sends 158 = .ok (.return_, 1) := by decide +kernel
set_option maxRecDepth 20000 in
theorem ggX11_sender_X11_isFlow : GoodIn wsX11_sender wsX11_isFlow := goodIn_r _ [23, 24, 38, 39, 40, 41, 42, 43, 44, 45, 46, 47, 48, 49, 50, 51, 52, 53, 54, 55, 56, 57, 58, 59, 60, 61, 62, 63, 64, 65, 66, 67, 68, 69, 70, 71, 72, 73, 74, 75, 76, 77, 78, 79, 80, 81, 82, 83, 84, 85, 86, 87, 88, 89, 90, 91, 92, 93, 94, 95, 96, 97, 98, 99, 100, 101, 102, 103, 104, 105, 106, 107, 108, 109, 110, 111] (by decide +kernel) (by decide +kernel)
set_option maxRecDepth 20000 in
theorem gX11_sender_X11_isFlow : GoodIn wsX11_sender (wsV RX11 195 RX11 yX11_isFlow wsX11_isFlow) := goodIn_app (goodIn_of _ (by decide +kernel)) ggX11_sender_X11_isFlow
set_option maxRecDepth 20000 in
theorem ggX11_sender_X11_out : GoodIn wsX11_sender wsX11_out := goodIn_r _ [28, 29, 10, 2, 1, 30, 31, 32, 22, 33, 34, 3, 35, 36, 37, 38, 39, 40, 41, 42, 43, 44, 45, 46, 47, 48, 49, 50, 51, 52, 53, 54, 55, 56, 57, 58, 59, 60, 61, 62, 63, 64, 65, 66, 67, 68, 69, 70, 71, 72, 73, 74, 75, 76, 77, 78, 79, 80, 81, 82, 83, 84, 85, 86, 87, 88, 89, 90, 91, 92, 93, 94, 95, 96, 97, 98, 99, 100, 101, 102, 103, 104, 105, 106, 107, 108, 109, 110, 111] (by decide +kernel) (by decide +kernel)
set_option maxRecDepth 20000 in
theorem gX11_sender_X11_out : GoodIn wsX11_sender (wsV RX11 341 RX11 yX11_out wsX11_out) := goodIn_app (goodIn_of _ (by decide +kernel)) ggX11_sender_X11_out
theorem dX11_sender_0 : decode cX11_sender 0 = .ok (.aload_n 0, 1) := by decide +kernel
theorem dX11_sender_1 : decode cX11_sender 1 = .ok (.iload_n 1, 1) := by decide +kernel
theorem dX11_sender_2 : decode cX11_sender 2 = .ok (.invokevirtual 195, 3) := by decide +kernel
theorem dX11_sender_5 : decode cX11_sender 5 = .ok (.ifCond .ne 5, 3) := by decide +kernel
theorem dX11_sender_8 : decode cX11_sender 8 = .ok (.iconst (-1), 1) := by decide +kernel
theorem dX11_sender_9 : decode cX11_sender 9 = .ok (.ireturn, 1) := by decide +kernel
theorem dX11_sender_10 : decode cX11_sender 10 = .ok (.iload_n 2, 1) := by decide +kernel
theorem dX11_sender_11 : decode cX11_sender 11 = .ok (.tableswitch 229 0 18 #[89, 96, 103, 110, 117, 124, 131, 138, 145, 152, 167, 174, 181, 188, 195, 202, 209, 216, 223], 89) := by decide +kernel
theorem dX11_sender_100 : decode cX11_sender 100 = .ok (.aload_n 0, 1) := by decide +kernel
theorem dX11_sender_101 : decode cX11_sender 101 = .ok (.getfield 100, 3) := by decide +kernel
theorem dX11_sender_104 : decode cX11_sender 104 = .ok (.iload_n 1, 1) := by decide +kernel
theorem dX11_sender_105 : decode cX11_sender 105 = .ok (.iaload, 1) := by decide +kernel
theorem dX11_sender_106 : decode cX11_sender 106 = .ok (.ireturn, 1) := by decide +kernel
theorem dX11_sender_107 : decode cX11_sender 107 = .ok (.aload_n 0, 1) := by decide +kernel
theorem dX11_sender_108 : decode cX11_sender 108 = .ok (.getfield 103, 3) := by decide +kernel
theorem dX11_sender_111 : decode cX11_sender 111 = .ok (.iload_n 1, 1) := by decide +kernel
theorem dX11_sender_112 : decode cX11_sender 112 = .ok (.iaload, 1) := by decide +kernel
theorem dX11_sender_113 : decode cX11_sender 113 = .ok (.ireturn, 1) := by decide +kernel
theorem dX11_sender_114 : decode cX11_sender 114 = .ok (.aload_n 0, 1) := by decide +kernel
theorem dX11_sender_115 : decode cX11_sender 115 = .ok (.getfield 106, 3) := by decide +kernel
theorem dX11_sender_118 : decode cX11_sender 118 = .ok (.iload_n 1, 1) := by decide +kernel
theorem dX11_sender_119 : decode cX11_sender 119 = .ok (.iaload, 1) := by decide +kernel
theorem dX11_sender_120 : decode cX11_sender 120 = .ok (.ireturn, 1) := by decide +kernel
theorem dX11_sender_121 : decode cX11_sender 121 = .ok (.aload_n 0, 1) := by decide +kernel
theorem dX11_sender_122 : decode cX11_sender 122 = .ok (.getfield 109, 3) := by decide +kernel
theorem dX11_sender_125 : decode cX11_sender 125 = .ok (.iload_n 1, 1) := by decide +kernel
theorem dX11_sender_126 : decode cX11_sender 126 = .ok (.iaload, 1) := by decide +kernel
theorem dX11_sender_127 : decode cX11_sender 127 = .ok (.ireturn, 1) := by decide +kernel
theorem dX11_sender_128 : decode cX11_sender 128 = .ok (.aload_n 0, 1) := by decide +kernel
theorem dX11_sender_129 : decode cX11_sender 129 = .ok (.getfield 112, 3) := by decide +kernel
theorem dX11_sender_132 : decode cX11_sender 132 = .ok (.iload_n 1, 1) := by decide +kernel
theorem dX11_sender_133 : decode cX11_sender 133 = .ok (.iaload, 1) := by decide +kernel
theorem dX11_sender_134 : decode cX11_sender 134 = .ok (.ireturn, 1) := by decide +kernel
theorem dX11_sender_135 : decode cX11_sender 135 = .ok (.aload_n 0, 1) := by decide +kernel
theorem dX11_sender_136 : decode cX11_sender 136 = .ok (.getfield 115, 3) := by decide +kernel
theorem dX11_sender_139 : decode cX11_sender 139 = .ok (.iload_n 1, 1) := by decide +kernel
theorem dX11_sender_140 : decode cX11_sender 140 = .ok (.iaload, 1) := by decide +kernel
theorem dX11_sender_141 : decode cX11_sender 141 = .ok (.ireturn, 1) := by decide +kernel
theorem dX11_sender_142 : decode cX11_sender 142 = .ok (.aload_n 0, 1) := by decide +kernel
theorem dX11_sender_143 : decode cX11_sender 143 = .ok (.getfield 118, 3) := by decide +kernel
theorem dX11_sender_146 : decode cX11_sender 146 = .ok (.iload_n 1, 1) := by decide +kernel
theorem dX11_sender_147 : decode cX11_sender 147 = .ok (.iaload, 1) := by decide +kernel
theorem dX11_sender_148 : decode cX11_sender 148 = .ok (.ireturn, 1) := by decide +kernel
theorem dX11_sender_149 : decode cX11_sender 149 = .ok (.aload_n 0, 1) := by decide +kernel
theorem dX11_sender_150 : decode cX11_sender 150 = .ok (.getfield 121, 3) := by decide +kernel
theorem dX11_sender_153 : decode cX11_sender 153 = .ok (.iload_n 1, 1) := by decide +kernel
theorem dX11_sender_154 : decode cX11_sender 154 = .ok (.iaload, 1) := by decide +kernel
theorem dX11_sender_155 : decode cX11_sender 155 = .ok (.ireturn, 1) := by decide +kernel
theorem dX11_sender_156 : decode cX11_sender 156 = .ok (.aload_n 0, 1) := by decide +kernel
theorem dX11_sender_157 : decode cX11_sender 157 = .ok (.getfield 127, 3) := by decide +kernel
theorem dX11_sender_160 : decode cX11_sender 160 = .ok (.iload_n 1, 1) := by decide +kernel
theorem dX11_sender_161 : decode cX11_sender 161 = .ok (.iaload, 1) := by decide +kernel
theorem dX11_sender_162 : decode cX11_sender 162 = .ok (.ireturn, 1) := by decide +kernel
theorem dX11_sender_163 : decode cX11_sender 163 = .ok (.aload_n 0, 1) := by decide +kernel
theorem dX11_sender_164 : decode cX11_sender 164 = .ok (.getfield 130, 3) := by decide +kernel
theorem dX11_sender_167 : decode cX11_sender 167 = .ok (.iload_n 1, 1) := by decide +kernel
theorem dX11_sender_168 : decode cX11_sender 168 = .ok (.baload, 1) := by decide +kernel
theorem dX11_sender_169 : decode cX11_sender 169 = .ok (.ifCond .eq 7, 3) := by decide +kernel
theorem dX11_sender_172 : decode cX11_sender 172 = .ok (.iconst 1, 1) := by decide +kernel
theorem dX11_sender_173 : decode cX11_sender 173 = .ok (.goto 4, 3) := by decide +kernel
theorem dX11_sender_176 : decode cX11_sender 176 = .ok (.iconst 0, 1) := by decide +kernel
theorem dX11_sender_177 : decode cX11_sender 177 = .ok (.ireturn, 1) := by decide +kernel
theorem dX11_sender_178 : decode cX11_sender 178 = .ok (.aload_n 0, 1) := by decide +kernel
theorem dX11_sender_179 : decode cX11_sender 179 = .ok (.getfield 139, 3) := by decide +kernel
theorem dX11_sender_182 : decode cX11_sender 182 = .ok (.iload_n 1, 1) := by decide +kernel
theorem dX11_sender_183 : decode cX11_sender 183 = .ok (.iaload, 1) := by decide +kernel
theorem dX11_sender_184 : decode cX11_sender 184 = .ok (.ireturn, 1) := by decide +kernel
theorem dX11_sender_185 : decode cX11_sender 185 = .ok (.aload_n 0, 1) := by decide +kernel
theorem dX11_sender_186 : decode cX11_sender 186 = .ok (.getfield 142, 3) := by decide +kernel
theorem dX11_sender_189 : decode cX11_sender 189 = .ok (.iload_n 1, 1) := by decide +kernel
theorem dX11_sender_190 : decode cX11_sender 190 = .ok (.iaload, 1) := by decide +kernel
theorem dX11_sender_191 : decode cX11_sender 191 = .ok (.ireturn, 1) := by decide +kernel
theorem dX11_sender_192 : decode cX11_sender 192 = .ok (.aload_n 0, 1) := by decide +kernel
theorem dX11_sender_193 : decode cX11_sender 193 = .ok (.getfield 145, 3) := by decide +kernel
theorem dX11_sender_196 : decode cX11_sender 196 = .ok (.iload_n 1, 1) := by decide +kernel
theorem dX11_sender_197 : decode cX11_sender 197 = .ok (.iaload, 1) := by decide +kernel
theorem dX11_sender_198 : decode cX11_sender 198 = .ok (.ireturn, 1) := by decide +kernel
theorem dX11_sender_199 : decode cX11_sender 199 = .ok (.aload_n 0, 1) := by decide +kernel
theorem dX11_sender_200 : decode cX11_sender 200 = .ok (.getfield 148, 3) := by decide +kernel
theorem dX11_sender_203 : decode cX11_sender 203 = .ok (.iload_n 1, 1) := by decide +kernel
theorem dX11_sender_204 : decode cX11_sender 204 = .ok (.iaload, 1) := by decide +kernel
theorem dX11_sender_205 : decode cX11_sender 205 = .ok (.ireturn, 1) := by decide +kernel
theorem dX11_sender_206 : decode cX11_sender 206 = .ok (.aload_n 0, 1) := by decide +kernel
theorem dX11_sender_207 : decode cX11_sender 207 = .ok (.getfield 151, 3) := by decide +kernel
theorem dX11_sender_210 : decode cX11_sender 210 = .ok (.iload_n 1, 1) := by decide +kernel
theorem dX11_sender_211 : decode cX11_sender 211 = .ok (.iaload, 1) := by decide +kernel
theorem dX11_sender_212 : decode cX11_sender 212 = .ok (.ireturn, 1) := by decide +kernel
theorem dX11_sender_213 : decode cX11_sender 213 = .ok (.aload_n 0, 1) := by decide +kernel
theorem dX11_sender_214 : decode cX11_sender 214 = .ok (.getfield 154, 3) := by decide +kernel
theorem dX11_sender_217 : decode cX11_sender 217 = .ok (.iload_n 1, 1) := by decide +kernel
theorem dX11_sender_218 : decode cX11_sender 218 = .ok (.iaload, 1) := by decide +kernel
theorem dX11_sender_219 : decode cX11_sender 219 = .ok (.ireturn, 1) := by decide +kernel
theorem dX11_sender_220 : decode cX11_sender 220 = .ok (.aload_n 0, 1) := by decide +kernel
theorem dX11_sender_221 : decode cX11_sender 221 = .ok (.getfield 157, 3) := by decide +kernel
theorem dX11_sender_224 : decode cX11_sender 224 = .ok (.iload_n 1, 1) := by decide +kernel
theorem dX11_sender_225 : decode cX11_sender 225 = .ok (.iaload, 1) := by decide +kernel
theorem dX11_sender_226 : decode cX11_sender 226 = .ok (.ireturn, 1) := by decide +kernel
theorem dX11_sender_227 : decode cX11_sender 227 = .ok (.aload_n 0, 1) := by decide +kernel
theorem dX11_sender_228 : decode cX11_sender 228 = .ok (.getfield 160, 3) := by decide +kernel
theorem dX11_sender_231 : decode cX11_sender 231 = .ok (.iload_n 1, 1) := by decide +kernel
theorem dX11_sender_232 : decode cX11_sender 232 = .ok (.iaload, 1) := by decide +kernel
theorem dX11_sender_233 : decode cX11_sender 233 = .ok (.ireturn, 1) := by decide +kernel
theorem dX11_sender_234 : decode cX11_sender 234 = .ok (.aload_n 0, 1) := by decide +kernel
theorem dX11_sender_235 : decode cX11_sender 235 = .ok (.iload_n 1, 1) := by decide +kernel
theorem dX11_sender_236 : decode cX11_sender 236 = .ok (.invokevirtual 341, 3) := by decide +kernel
theorem dX11_sender_239 : decode cX11_sender 239 = .ok (.ireturn, 1) := by decide +kernel
theorem dX11_sender_240 : decode cX11_sender 240 = .ok (.iconst (-1), 1) := by decide +kernel
theorem dX11_sender_241 : decode cX11_sender 241 = .ok (.ireturn, 1) := by decide +kernel
set_option maxRecDepth 20000 in
theorem ggX11_receiver_X11_isFlow : GoodIn wsX11_receiver wsX11_isFlow := goodIn_r _ [11, 12, 18, 19, 20, 21, 22, 23, 24, 25, 26, 27, 28, 29, 30, 31, 32, 33, 34, 35, 36, 37, 38, 39, 40, 41, 42, 43, 44, 45, 46, 47, 48, 49, 50, 51, 52, 53, 54, 55, 56, 57, 58, 59, 60, 61, 62, 63, 64, 65, 66, 67, 68, 69, 70, 71, 72, 73, 74, 75, 76, 77, 78, 79, 80, 81, 82, 83, 84, 85, 86, 87, 88, 89, 90, 91] (by decide +kernel) (by decide +kernel)
set_option maxRecDepth 20000 in
theorem gX11_receiver_X11_isFlow : GoodIn wsX11_receiver (wsV RX11 195 RX11 yX11_isFlow wsX11_isFlow) := goodIn_app (goodIn_of _ (by decide +kernel)) ggX11_receiver_X11_isFlow
set_option maxRecDepth 20000 in
theorem ggX11_receiver_X11_keptMany : GoodIn wsX11_receiver wsX11_keptMany := goodIn_r _ [16, 17, 18, 19, 20, 21, 22, 23, 24, 25, 26, 27, 28, 29, 30, 31, 32, 33, 34, 35, 36, 37, 38, 39, 40, 41, 42, 43, 44, 45, 46, 47, 48, 49, 50, 51, 52, 53, 54, 55, 56, 57, 58, 59, 60, 61, 62, 63, 64, 65, 66, 67, 68, 69, 70, 71, 72, 73, 74, 75, 76, 77, 78, 79, 80, 81, 82, 83, 84, 85, 86, 87, 88, 89, 90, 91] (by decide +kernel) (by decide +kernel)
set_option maxRecDepth 20000 in
theorem gX11_receiver_X11_keptMany : GoodIn wsX11_receiver (wsV RX11 260 RX11 yX11_keptMany wsX11_keptMany) := goodIn_app (goodIn_of _ (by decide +kernel)) ggX11_receiver_X11_keptMany
theorem dX11_receiver_0 : decode cX11_receiver 0 = .ok (.aload_n 0, 1) := by decide +kernel
theorem dX11_receiver_1 : decode cX11_receiver 1 = .ok (.iload_n 1, 1) := by decide +kernel
theorem dX11_receiver_2 : decode cX11_receiver 2 = .ok (.invokevirtual 195, 3) := by decide +kernel
theorem dX11_receiver_5 : decode cX11_receiver 5 = .ok (.ifCond .ne 5, 3) := by decide +kernel
theorem dX11_receiver_8 : decode cX11_receiver 8 = .ok (.iconst (-1), 1) := by decide +kernel
theorem dX11_receiver_9 : decode cX11_receiver 9 = .ok (.ireturn, 1) := by decide +kernel
theorem dX11_receiver_10 : decode cX11_receiver 10 = .ok (.iload_n 2, 1) := by decide +kernel
theorem dX11_receiver_11 : decode cX11_receiver 11 = .ok (.tableswitch 89 0 6 #[41, 48, 54, 61, 68, 75, 82], 41) := by decide +kernel
theorem dX11_receiver_52 : decode cX11_receiver 52 = .ok (.aload_n 0, 1) := by decide +kernel
theorem dX11_receiver_53 : decode cX11_receiver 53 = .ok (.getfield 70, 3) := by decide +kernel
theorem dX11_receiver_56 : decode cX11_receiver 56 = .ok (.iload_n 1, 1) := by decide +kernel
theorem dX11_receiver_57 : decode cX11_receiver 57 = .ok (.iaload, 1) := by decide +kernel
theorem dX11_receiver_58 : decode cX11_receiver 58 = .ok (.ireturn, 1) := by decide +kernel
theorem dX11_receiver_59 : decode cX11_receiver 59 = .ok (.aload_n 0, 1) := by decide +kernel
theorem dX11_receiver_60 : decode cX11_receiver 60 = .ok (.iload_n 1, 1) := by decide +kernel
theorem dX11_receiver_61 : decode cX11_receiver 61 = .ok (.invokevirtual 260, 3) := by decide +kernel
theorem dX11_receiver_64 : decode cX11_receiver 64 = .ok (.ireturn, 1) := by decide +kernel
theorem dX11_receiver_65 : decode cX11_receiver 65 = .ok (.aload_n 0, 1) := by decide +kernel
theorem dX11_receiver_66 : decode cX11_receiver 66 = .ok (.getfield 73, 3) := by decide +kernel
theorem dX11_receiver_69 : decode cX11_receiver 69 = .ok (.iload_n 1, 1) := by decide +kernel
theorem dX11_receiver_70 : decode cX11_receiver 70 = .ok (.iaload, 1) := by decide +kernel
theorem dX11_receiver_71 : decode cX11_receiver 71 = .ok (.ireturn, 1) := by decide +kernel
theorem dX11_receiver_72 : decode cX11_receiver 72 = .ok (.aload_n 0, 1) := by decide +kernel
theorem dX11_receiver_73 : decode cX11_receiver 73 = .ok (.getfield 79, 3) := by decide +kernel
theorem dX11_receiver_76 : decode cX11_receiver 76 = .ok (.iload_n 1, 1) := by decide +kernel
theorem dX11_receiver_77 : decode cX11_receiver 77 = .ok (.iaload, 1) := by decide +kernel
theorem dX11_receiver_78 : decode cX11_receiver 78 = .ok (.ireturn, 1) := by decide +kernel
theorem dX11_receiver_79 : decode cX11_receiver 79 = .ok (.aload_n 0, 1) := by decide +kernel
theorem dX11_receiver_80 : decode cX11_receiver 80 = .ok (.getfield 82, 3) := by decide +kernel
theorem dX11_receiver_83 : decode cX11_receiver 83 = .ok (.iload_n 1, 1) := by decide +kernel
theorem dX11_receiver_84 : decode cX11_receiver 84 = .ok (.iaload, 1) := by decide +kernel
theorem dX11_receiver_85 : decode cX11_receiver 85 = .ok (.ireturn, 1) := by decide +kernel
theorem dX11_receiver_86 : decode cX11_receiver 86 = .ok (.aload_n 0, 1) := by decide +kernel
theorem dX11_receiver_87 : decode cX11_receiver 87 = .ok (.getfield 85, 3) := by decide +kernel
theorem dX11_receiver_90 : decode cX11_receiver 90 = .ok (.iload_n 1, 1) := by decide +kernel
theorem dX11_receiver_91 : decode cX11_receiver 91 = .ok (.iaload, 1) := by decide +kernel
theorem dX11_receiver_92 : decode cX11_receiver 92 = .ok (.ireturn, 1) := by decide +kernel
theorem dX11_receiver_93 : decode cX11_receiver 93 = .ok (.aload_n 0, 1) := by decide +kernel
theorem dX11_receiver_94 : decode cX11_receiver 94 = .ok (.getfield 88, 3) := by decide +kernel
theorem dX11_receiver_97 : decode cX11_receiver 97 = .ok (.iload_n 1, 1) := by decide +kernel
theorem dX11_receiver_98 : decode cX11_receiver 98 = .ok (.iaload, 1) := by decide +kernel
theorem dX11_receiver_99 : decode cX11_receiver 99 = .ok (.ireturn, 1) := by decide +kernel
theorem dX11_receiver_100 : decode cX11_receiver 100 = .ok (.iconst (-1), 1) := by decide +kernel
theorem dX11_receiver_101 : decode cX11_receiver 101 = .ok (.ireturn, 1) := by decide +kernel
set_option maxRecDepth 20000 in
theorem ggX11_kept_X11_isFlow : GoodIn wsX11_kept wsX11_isFlow := goodIn_r _ [7, 8, 9, 10, 11, 12, 13, 14, 15, 16, 17, 18, 19, 20, 21, 22, 23, 24, 25, 26, 27, 28, 29, 30, 31, 32, 33, 34, 35, 36, 37, 38, 39, 40, 41, 42, 43, 44, 45, 46, 47, 48, 49, 50, 51, 52, 53, 54, 55, 56, 57, 58, 59, 60, 61, 62, 63, 64, 65, 66, 67, 68, 69, 70, 71, 72, 73, 74, 75, 76, 77, 78, 79, 80, 81, 82] (by decide +kernel) (by decide +kernel)
set_option maxRecDepth 20000 in
theorem gX11_kept_X11_isFlow : GoodIn wsX11_kept (wsV RX11 195 RX11 yX11_isFlow wsX11_isFlow) := goodIn_app (goodIn_of _ (by decide +kernel)) ggX11_kept_X11_isFlow
theorem dX11_kept_0 : decode cX11_kept 0 = .ok (.aload_n 0, 1) := by decide +kernel
theorem dX11_kept_1 : decode cX11_kept 1 = .ok (.iload_n 1, 1) := by decide +kernel
theorem dX11_kept_2 : decode cX11_kept 2 = .ok (.invokevirtual 195, 3) := by decide +kernel
theorem dX11_kept_5 : decode cX11_kept 5 = .ok (.ifCond .eq 7, 3) := by decide +kernel
theorem dX11_kept_8 : decode cX11_kept 8 = .ok (.iload_n 2, 1) := by decide +kernel
theorem dX11_kept_9 : decode cX11_kept 9 = .ok (.ifCond .ge 5, 3) := by decide +kernel
theorem dX11_kept_12 : decode cX11_kept 12 = .ok (.iconst (-1), 1) := by decide +kernel
theorem dX11_kept_13 : decode cX11_kept 13 = .ok (.ireturn, 1) := by decide +kernel
theorem dX11_kept_14 : decode cX11_kept 14 = .ok (.iconst 0, 1) := by decide +kernel
theorem dX11_kept_15 : decode cX11_kept 15 = .ok (.istore_n 3, 1) := by decide +kernel
theorem dX11_kept_16 : decode cX11_kept 16 = .ok (.iconst 0, 1) := by decide +kernel
theorem dX11_kept_17 : decode cX11_kept 17 = .ok (.istore 4, 2) := by decide +kernel
theorem dX11_kept_19 : decode cX11_kept 19 = .ok (.iload 4, 2) := by decide +kernel
theorem dX11_kept_21 : decode cX11_kept 21 = .ok (.sipush 200, 3) := by decide +kernel
theorem dX11_kept_24 : decode cX11_kept 24 = .ok (.if_icmp .ge 46, 3) := by decide +kernel
theorem dX11_kept_27 : decode cX11_kept 27 = .ok (.aload_n 0, 1) := by decide +kernel
theorem dX11_kept_28 : decode cX11_kept 28 = .ok (.getfield 76, 3) := by decide +kernel
theorem dX11_kept_31 : decode cX11_kept 31 = .ok (.sipush 200, 3) := by decide +kernel
theorem dX11_kept_34 : decode cX11_kept 34 = .ok (.iload_n 1, 1) := by decide +kernel
theorem dX11_kept_35 : decode cX11_kept 35 = .ok (.imul, 1) := by decide +kernel
theorem dX11_kept_36 : decode cX11_kept 36 = .ok (.iload 4, 2) := by decide +kernel
theorem dX11_kept_38 : decode cX11_kept 38 = .ok (.iadd, 1) := by decide +kernel
theorem dX11_kept_39 : decode cX11_kept 39 = .ok (.baload, 1) := by decide +kernel
theorem dX11_kept_40 : decode cX11_kept 40 = .ok (.ifCond .ne 6, 3) := by decide +kernel
theorem dX11_kept_43 : decode cX11_kept 43 = .ok (.goto 21, 3) := by decide +kernel
theorem dX11_kept_46 : decode cX11_kept 46 = .ok (.iload_n 3, 1) := by decide +kernel
theorem dX11_kept_47 : decode cX11_kept 47 = .ok (.iload_n 2, 1) := by decide +kernel
theorem dX11_kept_48 : decode cX11_kept 48 = .ok (.if_icmp .ne 13, 3) := by decide +kernel
theorem dX11_kept_51 : decode cX11_kept 51 = .ok (.aload_n 0, 1) := by decide +kernel
theorem dX11_kept_52 : decode cX11_kept 52 = .ok (.getfield 70, 3) := by decide +kernel
theorem dX11_kept_55 : decode cX11_kept 55 = .ok (.iload_n 1, 1) := by decide +kernel
theorem dX11_kept_56 : decode cX11_kept 56 = .ok (.iaload, 1) := by decide +kernel
theorem dX11_kept_57 : decode cX11_kept 57 = .ok (.iload 4, 2) := by decide +kernel
theorem dX11_kept_59 : decode cX11_kept 59 = .ok (.iadd, 1) := by decide +kernel
theorem dX11_kept_60 : decode cX11_kept 60 = .ok (.ireturn, 1) := by decide +kernel
theorem dX11_kept_61 : decode cX11_kept 61 = .ok (.iinc 3 1, 3) := by decide +kernel
theorem dX11_kept_64 : decode cX11_kept 64 = .ok (.iinc 4 1, 3) := by decide +kernel
theorem dX11_kept_67 : decode cX11_kept 67 = .ok (.goto (-48), 3) := by decide +kernel
theorem dX11_kept_70 : decode cX11_kept 70 = .ok (.iconst (-1), 1) := by decide +kernel
theorem dX11_kept_71 : decode cX11_kept 71 = .ok (.ireturn, 1) := by decide +kernel
set_option maxRecDepth 20000 in
theorem ggX11_most_X11_isFlow : GoodIn wsX11_most wsX11_isFlow := goodIn_r _ [6, 7, 8, 9, 10, 11, 12, 13, 14, 15, 16, 17, 18, 19, 20, 21, 22, 23, 24, 25, 26, 27, 28, 29, 30, 31, 32, 33, 34, 35, 36, 37, 38, 39, 40, 41, 42, 43, 44, 45, 46, 47, 48, 49, 50, 51, 52, 53, 54, 55, 56, 57, 58, 59, 60, 61, 62, 63, 64, 65, 66, 67, 68, 69, 70, 71, 72, 73, 74, 75, 76, 77, 78, 79, 80, 81] (by decide +kernel) (by decide +kernel)
set_option maxRecDepth 20000 in
theorem gX11_most_X11_isFlow : GoodIn wsX11_most (wsV RX11 195 RX11 yX11_isFlow wsX11_isFlow) := goodIn_app (goodIn_of _ (by decide +kernel)) ggX11_most_X11_isFlow
theorem dX11_most_0 : decode cX11_most 0 = .ok (.aload_n 0, 1) := by decide +kernel
theorem dX11_most_1 : decode cX11_most 1 = .ok (.iload_n 1, 1) := by decide +kernel
theorem dX11_most_2 : decode cX11_most 2 = .ok (.invokevirtual 195, 3) := by decide +kernel
theorem dX11_most_5 : decode cX11_most 5 = .ok (.ifCond .eq 12, 3) := by decide +kernel
theorem dX11_most_8 : decode cX11_most 8 = .ok (.aload_n 0, 1) := by decide +kernel
