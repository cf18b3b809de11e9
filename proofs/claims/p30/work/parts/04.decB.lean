theorem dL_cell_0 : decode cL_cell 0 = .ok (.iload_n 1, 1) := by decide +kernel
theorem dL_cell_1 : decode cL_cell 1 = .ok (.aload_n 0, 1) := by decide +kernel
theorem dL_cell_2 : decode cL_cell 2 = .ok (.arraylength, 1) := by decide +kernel
theorem dL_cell_3 : decode cL_cell 3 = .ok (.if_icmp .ge 9, 3) := by decide +kernel
theorem dL_cell_6 : decode cL_cell 6 = .ok (.aload_n 0, 1) := by decide +kernel
theorem dL_cell_7 : decode cL_cell 7 = .ok (.iload_n 1, 1) := by decide +kernel
theorem dL_cell_8 : decode cL_cell 8 = .ok (.iaload, 1) := by decide +kernel
theorem dL_cell_9 : decode cL_cell 9 = .ok (.goto 15, 3) := by decide +kernel
theorem dL_cell_12 : decode cL_cell 12 = .ok (.ldc 7, 2) := by decide +kernel
theorem dL_cell_14 : decode cL_cell 14 = .ok (.iload_n 1, 1) := by decide +kernel
theorem dL_cell_15 : decode cL_cell 15 = .ok (.sipush 4096, 3) := by decide +kernel
theorem dL_cell_18 : decode cL_cell 18 = .ok (.irem, 1) := by decide +kernel
theorem dL_cell_19 : decode cL_cell 19 = .ok (.imul, 1) := by decide +kernel
theorem dL_cell_20 : decode cL_cell 20 = .ok (.sipush 337, 3) := by decide +kernel
theorem dL_cell_23 : decode cL_cell 23 = .ok (.iadd, 1) := by decide +kernel
theorem dL_cell_24 : decode cL_cell 24 = .ok (.ldc 8, 2) := by decide +kernel
theorem dL_cell_26 : decode cL_cell 26 = .ok (.iand, 1) := by decide +kernel
theorem dL_cell_27 : decode cL_cell 27 = .ok (.ireturn, 1) := by decide +kernel
theorem dL_acts_0 : decode cL_acts 0 = .ok (.iload_n 1, 1) := by decide +kernel
theorem dL_acts_1 : decode cL_acts 1 = .ok (.bipush 16, 2) := by decide +kernel
theorem dL_acts_3 : decode cL_acts 3 = .ok (.idiv, 1) := by decide +kernel
theorem dL_acts_4 : decode cL_acts 4 = .ok (.istore_n 2, 1) := by decide +kernel
theorem dL_acts_5 : decode cL_acts 5 = .ok (.iload_n 1, 1) := by decide +kernel
theorem dL_acts_6 : decode cL_acts 6 = .ok (.bipush 16, 2) := by decide +kernel
theorem dL_acts_8 : decode cL_acts 8 = .ok (.irem, 1) := by decide +kernel
theorem dL_acts_9 : decode cL_acts 9 = .ok (.tableswitch 188 0 9 #[55, 71, 86, 103, 103, 125, 134, 143, 152, 174], 55) := by decide +kernel
theorem dL_acts_64 : decode cL_acts 64 = .ok (.aload_n 0, 1) := by decide +kernel
theorem dL_acts_65 : decode cL_acts 65 = .ok (.iload_n 2, 1) := by decide +kernel
theorem dL_acts_66 : decode cL_acts 66 = .ok (.bipush 6, 2) := by decide +kernel
theorem dL_acts_68 : decode cL_acts 68 = .ok (.irem, 1) := by decide +kernel
theorem dL_acts_69 : decode cL_acts 69 = .ok (.iload_n 2, 1) := by decide +kernel
theorem dL_acts_70 : decode cL_acts 70 = .ok (.bipush 6, 2) := by decide +kernel
theorem dL_acts_72 : decode cL_acts 72 = .ok (.idiv, 1) := by decide +kernel
theorem dL_acts_73 : decode cL_acts 73 = .ok (.bipush 7, 2) := by decide +kernel
theorem dL_acts_75 : decode cL_acts 75 = .ok (.irem, 1) := by decide +kernel
theorem dL_acts_76 : decode cL_acts 76 = .ok (.invokevirtual 9, 3) := by decide +kernel
theorem dL_acts_79 : decode cL_acts 79 = .ok (.ireturn, 1) := by decide +kernel
theorem dL_acts_80 : decode cL_acts 80 = .ok (.aload_n 0, 1) := by decide +kernel
theorem dL_acts_81 : decode cL_acts 81 = .ok (.iload_n 2, 1) := by decide +kernel
theorem dL_acts_82 : decode cL_acts 82 = .ok (.bipush 9, 2) := by decide +kernel
theorem dL_acts_84 : decode cL_acts 84 = .ok (.irem, 1) := by decide +kernel
theorem dL_acts_85 : decode cL_acts 85 = .ok (.iload_n 2, 1) := by decide +kernel
theorem dL_acts_86 : decode cL_acts 86 = .ok (.bipush 9, 2) := by decide +kernel
theorem dL_acts_88 : decode cL_acts 88 = .ok (.idiv, 1) := by decide +kernel
theorem dL_acts_89 : decode cL_acts 89 = .ok (.iconst 5, 1) := by decide +kernel
theorem dL_acts_90 : decode cL_acts 90 = .ok (.irem, 1) := by decide +kernel
theorem dL_acts_91 : decode cL_acts 91 = .ok (.invokevirtual 15, 3) := by decide +kernel
theorem dL_acts_94 : decode cL_acts 94 = .ok (.ireturn, 1) := by decide +kernel
theorem dL_acts_95 : decode cL_acts 95 = .ok (.aload_n 0, 1) := by decide +kernel
theorem dL_acts_96 : decode cL_acts 96 = .ok (.iload_n 2, 1) := by decide +kernel
theorem dL_acts_97 : decode cL_acts 97 = .ok (.bipush 6, 2) := by decide +kernel
theorem dL_acts_99 : decode cL_acts 99 = .ok (.irem, 1) := by decide +kernel
theorem dL_acts_100 : decode cL_acts 100 = .ok (.iload_n 2, 1) := by decide +kernel
theorem dL_acts_101 : decode cL_acts 101 = .ok (.bipush 6, 2) := by decide +kernel
theorem dL_acts_103 : decode cL_acts 103 = .ok (.idiv, 1) := by decide +kernel
theorem dL_acts_104 : decode cL_acts 104 = .ok (.sipush 150, 3) := by decide +kernel
theorem dL_acts_107 : decode cL_acts 107 = .ok (.irem, 1) := by decide +kernel
theorem dL_acts_108 : decode cL_acts 108 = .ok (.invokevirtual 18, 3) := by decide +kernel
theorem dL_acts_111 : decode cL_acts 111 = .ok (.ireturn, 1) := by decide +kernel
theorem dL_acts_112 : decode cL_acts 112 = .ok (.aload_n 0, 1) := by decide +kernel
theorem dL_acts_113 : decode cL_acts 113 = .ok (.iload_n 2, 1) := by decide +kernel
theorem dL_acts_114 : decode cL_acts 114 = .ok (.bipush 9, 2) := by decide +kernel
theorem dL_acts_116 : decode cL_acts 116 = .ok (.irem, 1) := by decide +kernel
theorem dL_acts_117 : decode cL_acts 117 = .ok (.iload_n 2, 1) := by decide +kernel
theorem dL_acts_118 : decode cL_acts 118 = .ok (.bipush 9, 2) := by decide +kernel
theorem dL_acts_120 : decode cL_acts 120 = .ok (.idiv, 1) := by decide +kernel
theorem dL_acts_121 : decode cL_acts 121 = .ok (.iconst 5, 1) := by decide +kernel
theorem dL_acts_122 : decode cL_acts 122 = .ok (.irem, 1) := by decide +kernel
theorem dL_acts_123 : decode cL_acts 123 = .ok (.iload_n 2, 1) := by decide +kernel
theorem dL_acts_124 : decode cL_acts 124 = .ok (.bipush 45, 2) := by decide +kernel
theorem dL_acts_126 : decode cL_acts 126 = .ok (.idiv, 1) := by decide +kernel
theorem dL_acts_127 : decode cL_acts 127 = .ok (.bipush 10, 2) := by decide +kernel
theorem dL_acts_129 : decode cL_acts 129 = .ok (.irem, 1) := by decide +kernel
theorem dL_acts_130 : decode cL_acts 130 = .ok (.invokevirtual 21, 3) := by decide +kernel
theorem dL_acts_133 : decode cL_acts 133 = .ok (.ireturn, 1) := by decide +kernel
theorem dL_acts_134 : decode cL_acts 134 = .ok (.aload_n 0, 1) := by decide +kernel
theorem dL_acts_135 : decode cL_acts 135 = .ok (.iload_n 2, 1) := by decide +kernel
theorem dL_acts_136 : decode cL_acts 136 = .ok (.bipush 9, 2) := by decide +kernel
theorem dL_acts_138 : decode cL_acts 138 = .ok (.irem, 1) := by decide +kernel
theorem dL_acts_139 : decode cL_acts 139 = .ok (.invokevirtual 25, 3) := by decide +kernel
theorem dL_acts_142 : decode cL_acts 142 = .ok (.ireturn, 1) := by decide +kernel
theorem dL_acts_143 : decode cL_acts 143 = .ok (.aload_n 0, 1) := by decide +kernel
theorem dL_acts_144 : decode cL_acts 144 = .ok (.iload_n 2, 1) := by decide +kernel
theorem dL_acts_145 : decode cL_acts 145 = .ok (.bipush 9, 2) := by decide +kernel
theorem dL_acts_147 : decode cL_acts 147 = .ok (.irem, 1) := by decide +kernel
theorem dL_acts_148 : decode cL_acts 148 = .ok (.invokevirtual 29, 3) := by decide +kernel
theorem dL_acts_151 : decode cL_acts 151 = .ok (.ireturn, 1) := by decide +kernel
theorem dL_acts_152 : decode cL_acts 152 = .ok (.aload_n 0, 1) := by decide +kernel
theorem dL_acts_153 : decode cL_acts 153 = .ok (.iload_n 2, 1) := by decide +kernel
theorem dL_acts_154 : decode cL_acts 154 = .ok (.bipush 9, 2) := by decide +kernel
theorem dL_acts_156 : decode cL_acts 156 = .ok (.irem, 1) := by decide +kernel
theorem dL_acts_157 : decode cL_acts 157 = .ok (.invokevirtual 32, 3) := by decide +kernel
theorem dL_acts_160 : decode cL_acts 160 = .ok (.ireturn, 1) := by decide +kernel
theorem dL_acts_161 : decode cL_acts 161 = .ok (.iload_n 2, 1) := by decide +kernel
theorem dL_acts_162 : decode cL_acts 162 = .ok (.iconst 3, 1) := by decide +kernel
theorem dL_acts_163 : decode cL_acts 163 = .ok (.irem, 1) := by decide +kernel
theorem dL_acts_164 : decode cL_acts 164 = .ok (.ifCond .ne 10, 3) := by decide +kernel
theorem dL_acts_167 : decode cL_acts 167 = .ok (.aload_n 0, 1) := by decide +kernel
theorem dL_acts_168 : decode cL_acts 168 = .ok (.invokevirtual 35, 3) := by decide +kernel
theorem dL_acts_171 : decode cL_acts 171 = .ok (.goto 11, 3) := by decide +kernel
theorem dL_acts_174 : decode cL_acts 174 = .ok (.aload_n 0, 1) := by decide +kernel
theorem dL_acts_175 : decode cL_acts 175 = .ok (.iload_n 2, 1) := by decide +kernel
theorem dL_acts_176 : decode cL_acts 176 = .ok (.bipush 7, 2) := by decide +kernel
theorem dL_acts_178 : decode cL_acts 178 = .ok (.irem, 1) := by decide +kernel
theorem dL_acts_179 : decode cL_acts 179 = .ok (.invokevirtual 39, 3) := by decide +kernel
theorem dL_acts_182 : decode cL_acts 182 = .ok (.ireturn, 1) := by decide +kernel
theorem dL_acts_183 : decode cL_acts 183 = .ok (.aload_n 0, 1) := by decide +kernel
theorem dL_acts_184 : decode cL_acts 184 = .ok (.iload_n 2, 1) := by decide +kernel
theorem dL_acts_185 : decode cL_acts 185 = .ok (.iconst 3, 1) := by decide +kernel
theorem dL_acts_186 : decode cL_acts 186 = .ok (.irem, 1) := by decide +kernel
theorem dL_acts_187 : decode cL_acts 187 = .ok (.iload_n 2, 1) := by decide +kernel
theorem dL_acts_188 : decode cL_acts 188 = .ok (.iconst 3, 1) := by decide +kernel
theorem dL_acts_189 : decode cL_acts 189 = .ok (.idiv, 1) := by decide +kernel
theorem dL_acts_190 : decode cL_acts 190 = .ok (.bipush 50, 2) := by decide +kernel
theorem dL_acts_192 : decode cL_acts 192 = .ok (.irem, 1) := by decide +kernel
theorem dL_acts_193 : decode cL_acts 193 = .ok (.invokevirtual 42, 3) := by decide +kernel
theorem dL_acts_196 : decode cL_acts 196 = .ok (.ireturn, 1) := by decide +kernel
theorem dL_acts_197 : decode cL_acts 197 = .ok (.aload_n 0, 1) := by decide +kernel
theorem dL_acts_198 : decode cL_acts 198 = .ok (.iload_n 2, 1) := by decide +kernel
theorem dL_acts_199 : decode cL_acts 199 = .ok (.bipush 9, 2) := by decide +kernel
theorem dL_acts_201 : decode cL_acts 201 = .ok (.irem, 1) := by decide +kernel
theorem dL_acts_202 : decode cL_acts 202 = .ok (.iload_n 2, 1) := by decide +kernel
theorem dL_acts_203 : decode cL_acts 203 = .ok (.bipush 9, 2) := by decide +kernel
theorem dL_acts_205 : decode cL_acts 205 = .ok (.idiv, 1) := by decide +kernel
theorem dL_acts_206 : decode cL_acts 206 = .ok (.iconst 2, 1) := by decide +kernel
theorem dL_acts_207 : decode cL_acts 207 = .ok (.irem, 1) := by decide +kernel
theorem dL_acts_208 : decode cL_acts 208 = .ok (.ifCond .ne 7, 3) := by decide +kernel
theorem dL_acts_211 : decode cL_acts 211 = .ok (.iconst 1, 1) := by decide +kernel
theorem dL_acts_212 : decode cL_acts 212 = .ok (.goto 4, 3) := by decide +kernel
theorem dL_acts_215 : decode cL_acts 215 = .ok (.iconst 0, 1) := by decide +kernel
theorem dL_acts_216 : decode cL_acts 216 = .ok (.iload_n 2, 1) := by decide +kernel
theorem dL_acts_217 : decode cL_acts 217 = .ok (.bipush 18, 2) := by decide +kernel
theorem dL_acts_219 : decode cL_acts 219 = .ok (.idiv, 1) := by decide +kernel
theorem dL_acts_220 : decode cL_acts 220 = .ok (.bipush 40, 2) := by decide +kernel
theorem dL_acts_222 : decode cL_acts 222 = .ok (.irem, 1) := by decide +kernel
theorem dL_acts_223 : decode cL_acts 223 = .ok (.invokevirtual 45, 3) := by decide +kernel
theorem dL_acts_226 : decode cL_acts 226 = .ok (.ireturn, 1) := by decide +kernel
theorem dL_numbers_0 : decode cL_numbers 0 = .ok (.bipush 11, 2) := by decide +kernel
theorem dL_numbers_2 : decode cL_numbers 2 = .ok (.istore_n 1, 1) := by decide +kernel
theorem dL_numbers_3 : decode cL_numbers 3 = .ok (.iconst 0, 1) := by decide +kernel
theorem dL_numbers_4 : decode cL_numbers 4 = .ok (.istore_n 2, 1) := by decide +kernel
theorem dL_numbers_5 : decode cL_numbers 5 = .ok (.iload_n 2, 1) := by decide +kernel
theorem dL_numbers_6 : decode cL_numbers 6 = .ok (.bipush 11, 2) := by decide +kernel
theorem dL_numbers_8 : decode cL_numbers 8 = .ok (.if_icmp .ge 20, 3) := by decide +kernel
theorem dL_numbers_11 : decode cL_numbers 11 = .ok (.bipush 31, 2) := by decide +kernel
theorem dL_numbers_13 : decode cL_numbers 13 = .ok (.iload_n 1, 1) := by decide +kernel
theorem dL_numbers_14 : decode cL_numbers 14 = .ok (.imul, 1) := by decide +kernel
theorem dL_numbers_15 : decode cL_numbers 15 = .ok (.aload_n 0, 1) := by decide +kernel
theorem dL_numbers_16 : decode cL_numbers 16 = .ok (.iload_n 2, 1) := by decide +kernel
theorem dL_numbers_17 : decode cL_numbers 17 = .ok (.invokevirtual 49, 3) := by decide +kernel
theorem dL_numbers_20 : decode cL_numbers 20 = .ok (.iadd, 1) := by decide +kernel
theorem dL_numbers_21 : decode cL_numbers 21 = .ok (.istore_n 1, 1) := by decide +kernel
theorem dL_numbers_22 : decode cL_numbers 22 = .ok (.iinc 2 1, 3) := by decide +kernel
theorem dL_numbers_25 : decode cL_numbers 25 = .ok (.goto (-20), 3) := by decide +kernel
theorem dL_numbers_28 : decode cL_numbers 28 = .ok (.iconst 1, 1) := by decide +kernel
theorem dL_numbers_29 : decode cL_numbers 29 = .ok (.istore_n 2, 1) := by decide +kernel
theorem dL_numbers_30 : decode cL_numbers 30 = .ok (.iload_n 2, 1) := by decide +kernel
theorem dL_numbers_31 : decode cL_numbers 31 = .ok (.bipush 6, 2) := by decide +kernel
theorem dL_numbers_33 : decode cL_numbers 33 = .ok (.if_icmp .ge 35, 3) := by decide +kernel
theorem dL_numbers_36 : decode cL_numbers 36 = .ok (.iconst 0, 1) := by decide +kernel
theorem dL_numbers_37 : decode cL_numbers 37 = .ok (.istore_n 3, 1) := by decide +kernel
theorem dL_numbers_38 : decode cL_numbers 38 = .ok (.iload_n 3, 1) := by decide +kernel
theorem dL_numbers_39 : decode cL_numbers 39 = .ok (.bipush 6, 2) := by decide +kernel
theorem dL_numbers_41 : decode cL_numbers 41 = .ok (.if_icmp .ge 21, 3) := by decide +kernel
theorem dL_numbers_44 : decode cL_numbers 44 = .ok (.bipush 31, 2) := by decide +kernel
theorem dL_numbers_46 : decode cL_numbers 46 = .ok (.iload_n 1, 1) := by decide +kernel
theorem dL_numbers_47 : decode cL_numbers 47 = .ok (.imul, 1) := by decide +kernel
theorem dL_numbers_48 : decode cL_numbers 48 = .ok (.aload_n 0, 1) := by decide +kernel
theorem dL_numbers_49 : decode cL_numbers 49 = .ok (.iload_n 2, 1) := by decide +kernel
theorem dL_numbers_50 : decode cL_numbers 50 = .ok (.iload_n 3, 1) := by decide +kernel
theorem dL_numbers_51 : decode cL_numbers 51 = .ok (.invokevirtual 52, 3) := by decide +kernel
theorem dL_numbers_54 : decode cL_numbers 54 = .ok (.iadd, 1) := by decide +kernel
theorem dL_numbers_55 : decode cL_numbers 55 = .ok (.istore_n 1, 1) := by decide +kernel
theorem dL_numbers_56 : decode cL_numbers 56 = .ok (.iinc 3 1, 3) := by decide +kernel
theorem dL_numbers_59 : decode cL_numbers 59 = .ok (.goto (-21), 3) := by decide +kernel
theorem dL_numbers_62 : decode cL_numbers 62 = .ok (.iinc 2 1, 3) := by decide +kernel
theorem dL_numbers_65 : decode cL_numbers 65 = .ok (.goto (-35), 3) := by decide +kernel
theorem dL_numbers_68 : decode cL_numbers 68 = .ok (.iconst 0, 1) := by decide +kernel
theorem dL_numbers_69 : decode cL_numbers 69 = .ok (.istore_n 2, 1) := by decide +kernel
theorem dL_numbers_70 : decode cL_numbers 70 = .ok (.iload_n 2, 1) := by decide +kernel
theorem dL_numbers_71 : decode cL_numbers 71 = .ok (.bipush 12, 2) := by decide +kernel
theorem dL_numbers_73 : decode cL_numbers 73 = .ok (.if_icmp .ge 78, 3) := by decide +kernel
theorem dL_numbers_76 : decode cL_numbers 76 = .ok (.iconst 0, 1) := by decide +kernel
theorem dL_numbers_77 : decode cL_numbers 77 = .ok (.istore_n 3, 1) := by decide +kernel
theorem dL_numbers_78 : decode cL_numbers 78 = .ok (.iload_n 3, 1) := by decide +kernel
theorem dL_numbers_79 : decode cL_numbers 79 = .ok (.iconst 4, 1) := by decide +kernel
theorem dL_numbers_80 : decode cL_numbers 80 = .ok (.if_icmp .ge 44, 3) := by decide +kernel
theorem dL_numbers_83 : decode cL_numbers 83 = .ok (.bipush 31, 2) := by decide +kernel
theorem dL_numbers_85 : decode cL_numbers 85 = .ok (.iload_n 1, 1) := by decide +kernel
theorem dL_numbers_86 : decode cL_numbers 86 = .ok (.imul, 1) := by decide +kernel
theorem dL_numbers_87 : decode cL_numbers 87 = .ok (.aload_n 0, 1) := by decide +kernel
theorem dL_numbers_88 : decode cL_numbers 88 = .ok (.iload_n 2, 1) := by decide +kernel
theorem dL_numbers_89 : decode cL_numbers 89 = .ok (.iload_n 3, 1) := by decide +kernel
theorem dL_numbers_90 : decode cL_numbers 90 = .ok (.iconst 0, 1) := by decide +kernel
theorem dL_numbers_91 : decode cL_numbers 91 = .ok (.invokevirtual 55, 3) := by decide +kernel
theorem dL_numbers_94 : decode cL_numbers 94 = .ok (.iadd, 1) := by decide +kernel
theorem dL_numbers_95 : decode cL_numbers 95 = .ok (.bipush 7, 2) := by decide +kernel
theorem dL_numbers_97 : decode cL_numbers 97 = .ok (.aload_n 0, 1) := by decide +kernel
theorem dL_numbers_98 : decode cL_numbers 98 = .ok (.iload_n 2, 1) := by decide +kernel
theorem dL_numbers_99 : decode cL_numbers 99 = .ok (.iload_n 3, 1) := by decide +kernel
theorem dL_numbers_100 : decode cL_numbers 100 = .ok (.iconst 1, 1) := by decide +kernel
theorem dL_numbers_101 : decode cL_numbers 101 = .ok (.invokevirtual 55, 3) := by decide +kernel
theorem dL_numbers_104 : decode cL_numbers 104 = .ok (.imul, 1) := by decide +kernel
theorem dL_numbers_105 : decode cL_numbers 105 = .ok (.iadd, 1) := by decide +kernel
theorem dL_numbers_106 : decode cL_numbers 106 = .ok (.bipush 13, 2) := by decide +kernel
theorem dL_numbers_108 : decode cL_numbers 108 = .ok (.aload_n 0, 1) := by decide +kernel
theorem dL_numbers_109 : decode cL_numbers 109 = .ok (.iload_n 2, 1) := by decide +kernel
theorem dL_numbers_110 : decode cL_numbers 110 = .ok (.iload_n 3, 1) := by decide +kernel
theorem dL_numbers_111 : decode cL_numbers 111 = .ok (.iconst 2, 1) := by decide +kernel
theorem dL_numbers_112 : decode cL_numbers 112 = .ok (.invokevirtual 55, 3) := by decide +kernel
theorem dL_numbers_115 : decode cL_numbers 115 = .ok (.imul, 1) := by decide +kernel
theorem dL_numbers_116 : decode cL_numbers 116 = .ok (.iadd, 1) := by decide +kernel
theorem dL_numbers_117 : decode cL_numbers 117 = .ok (.istore_n 1, 1) := by decide +kernel
theorem dL_numbers_118 : decode cL_numbers 118 = .ok (.iinc 3 1, 3) := by decide +kernel
theorem dL_numbers_121 : decode cL_numbers 121 = .ok (.goto (-43), 3) := by decide +kernel
theorem dL_numbers_124 : decode cL_numbers 124 = .ok (.bipush 31, 2) := by decide +kernel
theorem dL_numbers_126 : decode cL_numbers 126 = .ok (.iload_n 1, 1) := by decide +kernel
theorem dL_numbers_127 : decode cL_numbers 127 = .ok (.imul, 1) := by decide +kernel
theorem dL_numbers_128 : decode cL_numbers 128 = .ok (.aload_n 0, 1) := by decide +kernel
theorem dL_numbers_129 : decode cL_numbers 129 = .ok (.iload_n 2, 1) := by decide +kernel
theorem dL_numbers_130 : decode cL_numbers 130 = .ok (.iconst 2, 1) := by decide +kernel
theorem dL_numbers_131 : decode cL_numbers 131 = .ok (.invokevirtual 58, 3) := by decide +kernel
theorem dL_numbers_134 : decode cL_numbers 134 = .ok (.iadd, 1) := by decide +kernel
theorem dL_numbers_135 : decode cL_numbers 135 = .ok (.iconst 5, 1) := by decide +kernel
theorem dL_numbers_136 : decode cL_numbers 136 = .ok (.aload_n 0, 1) := by decide +kernel
theorem dL_numbers_137 : decode cL_numbers 137 = .ok (.iload_n 2, 1) := by decide +kernel
theorem dL_numbers_138 : decode cL_numbers 138 = .ok (.iconst 3, 1) := by decide +kernel
theorem dL_numbers_139 : decode cL_numbers 139 = .ok (.invokevirtual 58, 3) := by decide +kernel
theorem dL_numbers_142 : decode cL_numbers 142 = .ok (.imul, 1) := by decide +kernel
theorem dL_numbers_143 : decode cL_numbers 143 = .ok (.iadd, 1) := by decide +kernel
theorem dL_numbers_144 : decode cL_numbers 144 = .ok (.istore_n 1, 1) := by decide +kernel
theorem dL_numbers_145 : decode cL_numbers 145 = .ok (.iinc 2 1, 3) := by decide +kernel
theorem dL_numbers_148 : decode cL_numbers 148 = .ok (.goto (-78), 3) := by decide +kernel
theorem dL_numbers_151 : decode cL_numbers 151 = .ok (.iload_n 1, 1) := by decide +kernel
theorem dL_numbers_152 : decode cL_numbers 152 = .ok (.ireturn, 1) := by decide +kernel
theorem dL_apart_0 : decode cL_apart 0 = .ok (.iload_n 0, 1) := by decide +kernel
theorem dL_apart_1 : decode cL_apart 1 = .ok (.iload_n 1, 1) := by decide +kernel
theorem dL_apart_2 : decode cL_apart 2 = .ok (.if_icmp .le 9, 3) := by decide +kernel
theorem dL_apart_5 : decode cL_apart 5 = .ok (.iload_n 0, 1) := by decide +kernel
theorem dL_apart_6 : decode cL_apart 6 = .ok (.iload_n 1, 1) := by decide +kernel
theorem dL_apart_7 : decode cL_apart 7 = .ok (.isub, 1) := by decide +kernel
theorem dL_apart_8 : decode cL_apart 8 = .ok (.goto 6, 3) := by decide +kernel
theorem dL_apart_11 : decode cL_apart 11 = .ok (.iload_n 1, 1) := by decide +kernel
theorem dL_apart_12 : decode cL_apart 12 = .ok (.iload_n 0, 1) := by decide +kernel
theorem dL_apart_13 : decode cL_apart 13 = .ok (.isub, 1) := by decide +kernel
theorem dL_apart_14 : decode cL_apart 14 = .ok (.ireturn, 1) := by decide +kernel
theorem dL_hangs_0 : decode cL_hangs 0 = .ok (.aload_n 0, 1) := by decide +kernel
theorem dL_hangs_1 : decode cL_hangs 1 = .ok (.iconst 1, 1) := by decide +kernel
theorem dL_hangs_2 : decode cL_hangs 2 = .ok (.invokevirtual 49, 3) := by decide +kernel
theorem dL_hangs_5 : decode cL_hangs 5 = .ok (.istore_n 1, 1) := by decide +kernel
theorem dL_hangs_6 : decode cL_hangs 6 = .ok (.iconst 0, 1) := by decide +kernel
theorem dL_hangs_7 : decode cL_hangs 7 = .ok (.istore_n 2, 1) := by decide +kernel
theorem dL_hangs_8 : decode cL_hangs 8 = .ok (.iconst 0, 1) := by decide +kernel
theorem dL_hangs_9 : decode cL_hangs 9 = .ok (.istore_n 3, 1) := by decide +kernel
theorem dL_hangs_10 : decode cL_hangs 10 = .ok (.iconst 0, 1) := by decide +kernel
theorem dL_hangs_11 : decode cL_hangs 11 = .ok (.istore 4, 2) := by decide +kernel
theorem dL_hangs_13 : decode cL_hangs 13 = .ok (.iconst 0, 1) := by decide +kernel
theorem dL_hangs_14 : decode cL_hangs 14 = .ok (.istore 5, 2) := by decide +kernel
theorem dL_hangs_16 : decode cL_hangs 16 = .ok (.iconst 0, 1) := by decide +kernel
theorem dL_hangs_17 : decode cL_hangs 17 = .ok (.istore 6, 2) := by decide +kernel
theorem dL_hangs_19 : decode cL_hangs 19 = .ok (.iconst 0, 1) := by decide +kernel
theorem dL_hangs_20 : decode cL_hangs 20 = .ok (.istore 7, 2) := by decide +kernel
theorem dL_hangs_22 : decode cL_hangs 22 = .ok (.iconst 0, 1) := by decide +kernel
theorem dL_hangs_23 : decode cL_hangs 23 = .ok (.istore 8, 2) := by decide +kernel
theorem dL_hangs_25 : decode cL_hangs 25 = .ok (.iload_n 1, 1) := by decide +kernel
theorem dL_hangs_26 : decode cL_hangs 26 = .ok (.bipush 12, 2) := by decide +kernel
theorem dL_hangs_28 : decode cL_hangs 28 = .ok (.if_icmp .gt 18, 3) := by decide +kernel
theorem dL_hangs_31 : decode cL_hangs 31 = .ok (.aload_n 0, 1) := by decide +kernel
theorem dL_hangs_32 : decode cL_hangs 32 = .ok (.iload_n 1, 1) := by decide +kernel
theorem dL_hangs_33 : decode cL_hangs 33 = .ok (.iconst 0, 1) := by decide +kernel
theorem dL_hangs_34 : decode cL_hangs 34 = .ok (.invokevirtual 58, 3) := by decide +kernel
theorem dL_hangs_37 : decode cL_hangs 37 = .ok (.ldc 61, 2) := by decide +kernel
theorem dL_hangs_39 : decode cL_hangs 39 = .ok (.if_icmp .ne 7, 3) := by decide +kernel
theorem dL_hangs_42 : decode cL_hangs 42 = .ok (.iconst 1, 1) := by decide +kernel
theorem dL_hangs_43 : decode cL_hangs 43 = .ok (.goto 4, 3) := by decide +kernel
theorem dL_hangs_46 : decode cL_hangs 46 = .ok (.iconst 0, 1) := by decide +kernel
theorem dL_hangs_47 : decode cL_hangs 47 = .ok (.istore 9, 2) := by decide +kernel
theorem dL_hangs_49 : decode cL_hangs 49 = .ok (.iconst 1, 1) := by decide +kernel
theorem dL_hangs_50 : decode cL_hangs 50 = .ok (.istore 10, 2) := by decide +kernel
theorem dL_hangs_52 : decode cL_hangs 52 = .ok (.iload 10, 2) := by decide +kernel
theorem dL_hangs_54 : decode cL_hangs 54 = .ok (.bipush 6, 2) := by decide +kernel
theorem dL_hangs_56 : decode cL_hangs 56 = .ok (.if_icmp .ge 114, 3) := by decide +kernel
theorem dL_hangs_59 : decode cL_hangs 59 = .ok (.iload 9, 2) := by decide +kernel
theorem dL_hangs_61 : decode cL_hangs 61 = .ok (.ifCond .eq 109, 3) := by decide +kernel
theorem dL_hangs_64 : decode cL_hangs 64 = .ok (.iload_n 2, 1) := by decide +kernel
theorem dL_hangs_65 : decode cL_hangs 65 = .ok (.aload_n 0, 1) := by decide +kernel
theorem dL_hangs_66 : decode cL_hangs 66 = .ok (.iload 10, 2) := by decide +kernel
theorem dL_hangs_68 : decode cL_hangs 68 = .ok (.iconst 1, 1) := by decide +kernel
theorem dL_hangs_69 : decode cL_hangs 69 = .ok (.invokevirtual 52, 3) := by decide +kernel
theorem dL_hangs_72 : decode cL_hangs 72 = .ok (.iadd, 1) := by decide +kernel
theorem dL_hangs_73 : decode cL_hangs 73 = .ok (.istore_n 2, 1) := by decide +kernel
theorem dL_hangs_74 : decode cL_hangs 74 = .ok (.iload_n 3, 1) := by decide +kernel
theorem dL_hangs_75 : decode cL_hangs 75 = .ok (.aload_n 0, 1) := by decide +kernel
theorem dL_hangs_76 : decode cL_hangs 76 = .ok (.iload 10, 2) := by decide +kernel
theorem dL_hangs_78 : decode cL_hangs 78 = .ok (.iconst 2, 1) := by decide +kernel
theorem dL_hangs_79 : decode cL_hangs 79 = .ok (.invokevirtual 52, 3) := by decide +kernel
theorem dL_hangs_82 : decode cL_hangs 82 = .ok (.iadd, 1) := by decide +kernel
theorem dL_hangs_83 : decode cL_hangs 83 = .ok (.istore_n 3, 1) := by decide +kernel
theorem dL_hangs_84 : decode cL_hangs 84 = .ok (.iload 4, 2) := by decide +kernel
theorem dL_hangs_86 : decode cL_hangs 86 = .ok (.aload_n 0, 1) := by decide +kernel
theorem dL_hangs_87 : decode cL_hangs 87 = .ok (.iload 10, 2) := by decide +kernel
theorem dL_hangs_89 : decode cL_hangs 89 = .ok (.iconst 3, 1) := by decide +kernel
theorem dL_hangs_90 : decode cL_hangs 90 = .ok (.invokevirtual 52, 3) := by decide +kernel
theorem dL_hangs_93 : decode cL_hangs 93 = .ok (.iadd, 1) := by decide +kernel
theorem dL_hangs_94 : decode cL_hangs 94 = .ok (.istore 4, 2) := by decide +kernel
theorem dL_hangs_96 : decode cL_hangs 96 = .ok (.aload_n 0, 1) := by decide +kernel
theorem dL_hangs_97 : decode cL_hangs 97 = .ok (.iload 10, 2) := by decide +kernel
theorem dL_hangs_99 : decode cL_hangs 99 = .ok (.iconst 1, 1) := by decide +kernel
theorem dL_hangs_100 : decode cL_hangs 100 = .ok (.invokevirtual 52, 3) := by decide +kernel
theorem dL_hangs_103 : decode cL_hangs 103 = .ok (.ifCond .lt 58, 3) := by decide +kernel
theorem dL_hangs_106 : decode cL_hangs 106 = .ok (.aload_n 0, 1) := by decide +kernel
theorem dL_hangs_107 : decode cL_hangs 107 = .ok (.iload 10, 2) := by decide +kernel
theorem dL_hangs_109 : decode cL_hangs 109 = .ok (.iconst 1, 1) := by decide +kernel
theorem dL_hangs_110 : decode cL_hangs 110 = .ok (.invokevirtual 52, 3) := by decide +kernel
theorem dL_hangs_113 : decode cL_hangs 113 = .ok (.aload_n 0, 1) := by decide +kernel
theorem dL_hangs_114 : decode cL_hangs 114 = .ok (.iload 10, 2) := by decide +kernel
theorem dL_hangs_116 : decode cL_hangs 116 = .ok (.iconst 0, 1) := by decide +kernel
theorem dL_hangs_117 : decode cL_hangs 117 = .ok (.invokevirtual 52, 3) := by decide +kernel
theorem dL_hangs_120 : decode cL_hangs 120 = .ok (.if_icmp .gt 41, 3) := by decide +kernel
theorem dL_hangs_123 : decode cL_hangs 123 = .ok (.aload_n 0, 1) := by decide +kernel
theorem dL_hangs_124 : decode cL_hangs 124 = .ok (.iload 10, 2) := by decide +kernel
theorem dL_hangs_126 : decode cL_hangs 126 = .ok (.iconst 4, 1) := by decide +kernel
theorem dL_hangs_127 : decode cL_hangs 127 = .ok (.invokevirtual 52, 3) := by decide +kernel
theorem dL_hangs_130 : decode cL_hangs 130 = .ok (.ldc 62, 2) := by decide +kernel
theorem dL_hangs_132 : decode cL_hangs 132 = .ok (.if_icmp .eq 25, 3) := by decide +kernel
theorem dL_hangs_135 : decode cL_hangs 135 = .ok (.aload_n 0, 1) := by decide +kernel
theorem dL_hangs_136 : decode cL_hangs 136 = .ok (.iload 10, 2) := by decide +kernel
theorem dL_hangs_138 : decode cL_hangs 138 = .ok (.iconst 4, 1) := by decide +kernel
theorem dL_hangs_139 : decode cL_hangs 139 = .ok (.invokevirtual 52, 3) := by decide +kernel
theorem dL_hangs_142 : decode cL_hangs 142 = .ok (.ifCond .le 19, 3) := by decide +kernel
theorem dL_hangs_145 : decode cL_hangs 145 = .ok (.aload_n 0, 1) := by decide +kernel
theorem dL_hangs_146 : decode cL_hangs 146 = .ok (.iload 10, 2) := by decide +kernel
theorem dL_hangs_148 : decode cL_hangs 148 = .ok (.iconst 4, 1) := by decide +kernel
theorem dL_hangs_149 : decode cL_hangs 149 = .ok (.invokevirtual 52, 3) := by decide +kernel
theorem dL_hangs_152 : decode cL_hangs 152 = .ok (.bipush 6, 2) := by decide +kernel
theorem dL_hangs_154 : decode cL_hangs 154 = .ok (.if_icmp .ge 7, 3) := by decide +kernel
theorem dL_hangs_157 : decode cL_hangs 157 = .ok (.iconst 1, 1) := by decide +kernel
theorem dL_hangs_158 : decode cL_hangs 158 = .ok (.goto 4, 3) := by decide +kernel
theorem dL_hangs_161 : decode cL_hangs 161 = .ok (.iconst 0, 1) := by decide +kernel
theorem dL_hangs_162 : decode cL_hangs 162 = .ok (.istore 9, 2) := by decide +kernel
theorem dL_hangs_164 : decode cL_hangs 164 = .ok (.iinc 10 1, 3) := by decide +kernel
theorem dL_hangs_167 : decode cL_hangs 167 = .ok (.goto (-115), 3) := by decide +kernel
theorem dL_hangs_170 : decode cL_hangs 170 = .ok (.iconst 0, 1) := by decide +kernel
theorem dL_hangs_171 : decode cL_hangs 171 = .ok (.istore 10, 2) := by decide +kernel
theorem dL_hangs_173 : decode cL_hangs 173 = .ok (.iload 10, 2) := by decide +kernel
theorem dL_hangs_175 : decode cL_hangs 175 = .ok (.iload_n 1, 1) := by decide +kernel
theorem dL_hangs_176 : decode cL_hangs 176 = .ok (.if_icmp .ge 411, 3) := by decide +kernel
theorem dL_hangs_179 : decode cL_hangs 179 = .ok (.iload 9, 2) := by decide +kernel
theorem dL_hangs_181 : decode cL_hangs 181 = .ok (.ifCond .eq 406, 3) := by decide +kernel
theorem dL_hangs_184 : decode cL_hangs 184 = .ok (.aload_n 0, 1) := by decide +kernel
theorem dL_hangs_185 : decode cL_hangs 185 = .ok (.iload 10, 2) := by decide +kernel
theorem dL_hangs_187 : decode cL_hangs 187 = .ok (.iconst 4, 1) := by decide +kernel
theorem dL_hangs_188 : decode cL_hangs 188 = .ok (.invokevirtual 58, 3) := by decide +kernel
theorem dL_hangs_191 : decode cL_hangs 191 = .ok (.istore 11, 2) := by decide +kernel
theorem dL_hangs_193 : decode cL_hangs 193 = .ok (.iload 5, 2) := by decide +kernel
theorem dL_hangs_195 : decode cL_hangs 195 = .ok (.iload 11, 2) := by decide +kernel
theorem dL_hangs_197 : decode cL_hangs 197 = .ok (.iadd, 1) := by decide +kernel
theorem dL_hangs_198 : decode cL_hangs 198 = .ok (.istore 5, 2) := by decide +kernel
theorem dL_hangs_200 : decode cL_hangs 200 = .ok (.iload 8, 2) := by decide +kernel
theorem dL_hangs_202 : decode cL_hangs 202 = .ok (.iload 11, 2) := by decide +kernel
theorem dL_hangs_204 : decode cL_hangs 204 = .ok (.ifCond .le 7, 3) := by decide +kernel
theorem dL_hangs_207 : decode cL_hangs 207 = .ok (.iconst 1, 1) := by decide +kernel
theorem dL_hangs_208 : decode cL_hangs 208 = .ok (.goto 4, 3) := by decide +kernel
theorem dL_hangs_211 : decode cL_hangs 211 = .ok (.iconst 0, 1) := by decide +kernel
theorem dL_hangs_212 : decode cL_hangs 212 = .ok (.iadd, 1) := by decide +kernel
theorem dL_hangs_213 : decode cL_hangs 213 = .ok (.istore 8, 2) := by decide +kernel
theorem dL_hangs_215 : decode cL_hangs 215 = .ok (.iload 7, 2) := by decide +kernel
theorem dL_hangs_217 : decode cL_hangs 217 = .ok (.aload_n 0, 1) := by decide +kernel
theorem dL_hangs_218 : decode cL_hangs 218 = .ok (.iload 10, 2) := by decide +kernel
theorem dL_hangs_220 : decode cL_hangs 220 = .ok (.iconst 3, 1) := by decide +kernel
theorem dL_hangs_221 : decode cL_hangs 221 = .ok (.invokevirtual 58, 3) := by decide +kernel
theorem dL_hangs_224 : decode cL_hangs 224 = .ok (.ifCond .le 7, 3) := by decide +kernel
theorem dL_hangs_227 : decode cL_hangs 227 = .ok (.iconst 1, 1) := by decide +kernel
theorem dL_hangs_228 : decode cL_hangs 228 = .ok (.goto 4, 3) := by decide +kernel
theorem dL_hangs_231 : decode cL_hangs 231 = .ok (.iconst 0, 1) := by decide +kernel
theorem dL_hangs_232 : decode cL_hangs 232 = .ok (.iadd, 1) := by decide +kernel
theorem dL_hangs_233 : decode cL_hangs 233 = .ok (.istore 7, 2) := by decide +kernel
theorem dL_hangs_235 : decode cL_hangs 235 = .ok (.iload 11, 2) := by decide +kernel
theorem dL_hangs_237 : decode cL_hangs 237 = .ok (.aload_n 0, 1) := by decide +kernel
theorem dL_hangs_238 : decode cL_hangs 238 = .ok (.iload 10, 2) := by decide +kernel
theorem dL_hangs_240 : decode cL_hangs 240 = .ok (.iconst 0, 1) := by decide +kernel
theorem dL_hangs_241 : decode cL_hangs 241 = .ok (.iconst 0, 1) := by decide +kernel
theorem dL_hangs_242 : decode cL_hangs 242 = .ok (.invokevirtual 55, 3) := by decide +kernel
theorem dL_hangs_245 : decode cL_hangs 245 = .ok (.aload_n 0, 1) := by decide +kernel
theorem dL_hangs_246 : decode cL_hangs 246 = .ok (.iload 10, 2) := by decide +kernel
theorem dL_hangs_248 : decode cL_hangs 248 = .ok (.iconst 3, 1) := by decide +kernel
theorem dL_hangs_249 : decode cL_hangs 249 = .ok (.iconst 0, 1) := by decide +kernel
theorem dL_hangs_250 : decode cL_hangs 250 = .ok (.invokevirtual 55, 3) := by decide +kernel
theorem dL_hangs_253 : decode cL_hangs 253 = .ok (.invokestatic 63, 3) := by decide +kernel
theorem dL_hangs_256 : decode cL_hangs 256 = .ok (.aload_n 0, 1) := by decide +kernel
theorem dL_hangs_257 : decode cL_hangs 257 = .ok (.iload 10, 2) := by decide +kernel
theorem dL_hangs_259 : decode cL_hangs 259 = .ok (.iconst 1, 1) := by decide +kernel
theorem dL_hangs_260 : decode cL_hangs 260 = .ok (.iconst 0, 1) := by decide +kernel
theorem dL_hangs_261 : decode cL_hangs 261 = .ok (.invokevirtual 55, 3) := by decide +kernel
theorem dL_hangs_264 : decode cL_hangs 264 = .ok (.aload_n 0, 1) := by decide +kernel
theorem dL_hangs_265 : decode cL_hangs 265 = .ok (.iload 10, 2) := by decide +kernel
theorem dL_hangs_267 : decode cL_hangs 267 = .ok (.iconst 2, 1) := by decide +kernel
theorem dL_hangs_268 : decode cL_hangs 268 = .ok (.iconst 0, 1) := by decide +kernel
theorem dL_hangs_269 : decode cL_hangs 269 = .ok (.invokevirtual 55, 3) := by decide +kernel
theorem dL_hangs_272 : decode cL_hangs 272 = .ok (.invokestatic 63, 3) := by decide +kernel
theorem dL_hangs_275 : decode cL_hangs 275 = .ok (.iadd, 1) := by decide +kernel
theorem dL_hangs_276 : decode cL_hangs 276 = .ok (.if_icmp .ne 7, 3) := by decide +kernel
theorem dL_hangs_279 : decode cL_hangs 279 = .ok (.iconst 1, 1) := by decide +kernel
theorem dL_hangs_280 : decode cL_hangs 280 = .ok (.goto 4, 3) := by decide +kernel
theorem dL_hangs_283 : decode cL_hangs 283 = .ok (.iconst 0, 1) := by decide +kernel
theorem dL_hangs_284 : decode cL_hangs 284 = .ok (.istore 9, 2) := by decide +kernel
theorem dL_hangs_286 : decode cL_hangs 286 = .ok (.iconst 0, 1) := by decide +kernel
theorem dL_hangs_287 : decode cL_hangs 287 = .ok (.istore 12, 2) := by decide +kernel
theorem dL_hangs_289 : decode cL_hangs 289 = .ok (.iload 12, 2) := by decide +kernel
theorem dL_hangs_291 : decode cL_hangs 291 = .ok (.iconst 4, 1) := by decide +kernel
theorem dL_hangs_292 : decode cL_hangs 292 = .ok (.if_icmp .ge 31, 3) := by decide +kernel
theorem dL_hangs_295 : decode cL_hangs 295 = .ok (.iload 6, 2) := by decide +kernel
theorem dL_hangs_297 : decode cL_hangs 297 = .ok (.aload_n 0, 1) := by decide +kernel
theorem dL_hangs_298 : decode cL_hangs 298 = .ok (.iload 10, 2) := by decide +kernel
theorem dL_hangs_300 : decode cL_hangs 300 = .ok (.iload 12, 2) := by decide +kernel
theorem dL_hangs_302 : decode cL_hangs 302 = .ok (.iconst 1, 1) := by decide +kernel
theorem dL_hangs_303 : decode cL_hangs 303 = .ok (.invokevirtual 55, 3) := by decide +kernel
theorem dL_hangs_306 : decode cL_hangs 306 = .ok (.ifCond .le 7, 3) := by decide +kernel
theorem dL_hangs_309 : decode cL_hangs 309 = .ok (.iconst 1, 1) := by decide +kernel
theorem dL_hangs_310 : decode cL_hangs 310 = .ok (.goto 4, 3) := by decide +kernel
theorem dL_hangs_313 : decode cL_hangs 313 = .ok (.iconst 0, 1) := by decide +kernel
theorem dL_hangs_314 : decode cL_hangs 314 = .ok (.iadd, 1) := by decide +kernel
theorem dL_hangs_315 : decode cL_hangs 315 = .ok (.istore 6, 2) := by decide +kernel
theorem dL_hangs_317 : decode cL_hangs 317 = .ok (.iinc 12 1, 3) := by decide +kernel
theorem dL_hangs_320 : decode cL_hangs 320 = .ok (.goto (-31), 3) := by decide +kernel
theorem dL_hangs_323 : decode cL_hangs 323 = .ok (.iconst 0, 1) := by decide +kernel
theorem dL_hangs_324 : decode cL_hangs 324 = .ok (.istore 12, 2) := by decide +kernel
theorem dL_hangs_326 : decode cL_hangs 326 = .ok (.iload 12, 2) := by decide +kernel
theorem dL_hangs_328 : decode cL_hangs 328 = .ok (.iconst 2, 1) := by decide +kernel
theorem dL_hangs_329 : decode cL_hangs 329 = .ok (.if_icmp .ge 252, 3) := by decide +kernel
theorem dL_hangs_332 : decode cL_hangs 332 = .ok (.iload 9, 2) := by decide +kernel
theorem dL_hangs_334 : decode cL_hangs 334 = .ok (.ifCond .eq 247, 3) := by decide +kernel
theorem dL_hangs_337 : decode cL_hangs 337 = .ok (.aload_n 0, 1) := by decide +kernel
theorem dL_hangs_338 : decode cL_hangs 338 = .ok (.iload 10, 2) := by decide +kernel
theorem dL_hangs_340 : decode cL_hangs 340 = .ok (.iload 12, 2) := by decide +kernel
theorem dL_hangs_342 : decode cL_hangs 342 = .ok (.ifCond .ne 7, 3) := by decide +kernel
theorem dL_hangs_345 : decode cL_hangs 345 = .ok (.iconst 1, 1) := by decide +kernel
theorem dL_hangs_346 : decode cL_hangs 346 = .ok (.goto 4, 3) := by decide +kernel
theorem dL_hangs_349 : decode cL_hangs 349 = .ok (.iconst 0, 1) := by decide +kernel
theorem dL_hangs_350 : decode cL_hangs 350 = .ok (.invokevirtual 68, 3) := by decide +kernel
theorem dL_hangs_353 : decode cL_hangs 353 = .ok (.istore 13, 2) := by decide +kernel
theorem dL_hangs_355 : decode cL_hangs 355 = .ok (.aload_n 0, 1) := by decide +kernel
theorem dL_hangs_356 : decode cL_hangs 356 = .ok (.iload 10, 2) := by decide +kernel
theorem dL_hangs_358 : decode cL_hangs 358 = .ok (.iload 12, 2) := by decide +kernel
theorem dL_hangs_360 : decode cL_hangs 360 = .ok (.invokevirtual 58, 3) := by decide +kernel
theorem dL_hangs_363 : decode cL_hangs 363 = .ok (.istore 14, 2) := by decide +kernel
theorem dL_hangs_365 : decode cL_hangs 365 = .ok (.aload_n 0, 1) := by decide +kernel
theorem dL_hangs_366 : decode cL_hangs 366 = .ok (.iload 10, 2) := by decide +kernel
theorem dL_hangs_368 : decode cL_hangs 368 = .ok (.iconst 1, 1) := by decide +kernel
theorem dL_hangs_369 : decode cL_hangs 369 = .ok (.iload 12, 2) := by decide +kernel
theorem dL_hangs_371 : decode cL_hangs 371 = .ok (.isub, 1) := by decide +kernel
theorem dL_hangs_372 : decode cL_hangs 372 = .ok (.invokevirtual 58, 3) := by decide +kernel
theorem dL_hangs_375 : decode cL_hangs 375 = .ok (.istore 15, 2) := by decide +kernel
theorem dL_hangs_377 : decode cL_hangs 377 = .ok (.aload_n 0, 1) := by decide +kernel
theorem dL_hangs_378 : decode cL_hangs 378 = .ok (.iload 10, 2) := by decide +kernel
theorem dL_hangs_380 : decode cL_hangs 380 = .ok (.iconst 3, 1) := by decide +kernel
theorem dL_hangs_381 : decode cL_hangs 381 = .ok (.invokevirtual 58, 3) := by decide +kernel
theorem dL_hangs_384 : decode cL_hangs 384 = .ok (.ifCond .ne 31, 3) := by decide +kernel
theorem dL_hangs_387 : decode cL_hangs 387 = .ok (.aload_n 0, 1) := by decide +kernel
theorem dL_hangs_388 : decode cL_hangs 388 = .ok (.iload 10, 2) := by decide +kernel
theorem dL_hangs_390 : decode cL_hangs 390 = .ok (.iconst 2, 1) := by decide +kernel
theorem dL_hangs_391 : decode cL_hangs 391 = .ok (.invokevirtual 58, 3) := by decide +kernel
theorem dL_hangs_394 : decode cL_hangs 394 = .ok (.ifCond .eq 17, 3) := by decide +kernel
theorem dL_hangs_397 : decode cL_hangs 397 = .ok (.aload_n 0, 1) := by decide +kernel
theorem dL_hangs_398 : decode cL_hangs 398 = .ok (.iload 10, 2) := by decide +kernel
theorem dL_hangs_400 : decode cL_hangs 400 = .ok (.iconst 2, 1) := by decide +kernel
theorem dL_hangs_401 : decode cL_hangs 401 = .ok (.invokevirtual 58, 3) := by decide +kernel
theorem dL_hangs_404 : decode cL_hangs 404 = .ok (.iload 12, 2) := by decide +kernel
theorem dL_hangs_406 : decode cL_hangs 406 = .ok (.iconst 1, 1) := by decide +kernel
theorem dL_hangs_407 : decode cL_hangs 407 = .ok (.iadd, 1) := by decide +kernel
theorem dL_hangs_408 : decode cL_hangs 408 = .ok (.if_icmp .ne 7, 3) := by decide +kernel
theorem dL_hangs_411 : decode cL_hangs 411 = .ok (.iconst 1, 1) := by decide +kernel
theorem dL_hangs_412 : decode cL_hangs 412 = .ok (.goto 4, 3) := by decide +kernel
theorem dL_hangs_415 : decode cL_hangs 415 = .ok (.iconst 0, 1) := by decide +kernel
theorem dL_hangs_416 : decode cL_hangs 416 = .ok (.istore 16, 2) := by decide +kernel
theorem dL_hangs_418 : decode cL_hangs 418 = .ok (.iload 13, 2) := by decide +kernel
theorem dL_hangs_420 : decode cL_hangs 420 = .ok (.ifCond .lt 80, 3) := by decide +kernel
theorem dL_hangs_423 : decode cL_hangs 423 = .ok (.iload 13, 2) := by decide +kernel
theorem dL_hangs_425 : decode cL_hangs 425 = .ok (.bipush 99, 2) := by decide +kernel
theorem dL_hangs_427 : decode cL_hangs 427 = .ok (.if_icmp .gt 73, 3) := by decide +kernel
theorem dL_hangs_430 : decode cL_hangs 430 = .ok (.iload 16, 2) := by decide +kernel
theorem dL_hangs_432 : decode cL_hangs 432 = .ok (.ifCond .ne 8, 3) := by decide +kernel
theorem dL_hangs_435 : decode cL_hangs 435 = .ok (.iload 13, 2) := by decide +kernel
theorem dL_hangs_437 : decode cL_hangs 437 = .ok (.ifCond .ne 63, 3) := by decide +kernel
theorem dL_hangs_440 : decode cL_hangs 440 = .ok (.iload 13, 2) := by decide +kernel
theorem dL_hangs_442 : decode cL_hangs 442 = .ok (.ifCond .eq 24, 3) := by decide +kernel
theorem dL_hangs_445 : decode cL_hangs 445 = .ok (.aload_n 0, 1) := by decide +kernel
theorem dL_hangs_446 : decode cL_hangs 446 = .ok (.iload 10, 2) := by decide +kernel
theorem dL_hangs_448 : decode cL_hangs 448 = .ok (.iload 12, 2) := by decide +kernel
theorem dL_hangs_450 : decode cL_hangs 450 = .ok (.ifCond .ne 7, 3) := by decide +kernel
theorem dL_hangs_453 : decode cL_hangs 453 = .ok (.iconst 1, 1) := by decide +kernel
theorem dL_hangs_454 : decode cL_hangs 454 = .ok (.goto 4, 3) := by decide +kernel
theorem dL_hangs_457 : decode cL_hangs 457 = .ok (.iconst 0, 1) := by decide +kernel
theorem dL_hangs_458 : decode cL_hangs 458 = .ok (.iload 13, 2) := by decide +kernel
theorem dL_hangs_460 : decode cL_hangs 460 = .ok (.invokevirtual 72, 3) := by decide +kernel
theorem dL_hangs_463 : decode cL_hangs 463 = .ok (.ifCond .ne 37, 3) := by decide +kernel
theorem dL_hangs_466 : decode cL_hangs 466 = .ok (.iload 13, 2) := by decide +kernel
theorem dL_hangs_468 : decode cL_hangs 468 = .ok (.bipush 99, 2) := by decide +kernel
theorem dL_hangs_470 : decode cL_hangs 470 = .ok (.if_icmp .eq 26, 3) := by decide +kernel
theorem dL_hangs_473 : decode cL_hangs 473 = .ok (.aload_n 0, 1) := by decide +kernel
theorem dL_hangs_474 : decode cL_hangs 474 = .ok (.iload 10, 2) := by decide +kernel
theorem dL_hangs_476 : decode cL_hangs 476 = .ok (.iload 12, 2) := by decide +kernel
theorem dL_hangs_478 : decode cL_hangs 478 = .ok (.ifCond .ne 7, 3) := by decide +kernel
theorem dL_hangs_481 : decode cL_hangs 481 = .ok (.iconst 1, 1) := by decide +kernel
theorem dL_hangs_482 : decode cL_hangs 482 = .ok (.goto 4, 3) := by decide +kernel
theorem dL_hangs_485 : decode cL_hangs 485 = .ok (.iconst 0, 1) := by decide +kernel
theorem dL_hangs_486 : decode cL_hangs 486 = .ok (.iload 13, 2) := by decide +kernel
theorem dL_hangs_488 : decode cL_hangs 488 = .ok (.iconst 1, 1) := by decide +kernel
theorem dL_hangs_489 : decode cL_hangs 489 = .ok (.iadd, 1) := by decide +kernel
theorem dL_hangs_490 : decode cL_hangs 490 = .ok (.invokevirtual 72, 3) := by decide +kernel
theorem dL_hangs_493 : decode cL_hangs 493 = .ok (.ifCond .le 7, 3) := by decide +kernel
theorem dL_hangs_496 : decode cL_hangs 496 = .ok (.iconst 1, 1) := by decide +kernel
theorem dL_hangs_497 : decode cL_hangs 497 = .ok (.goto 4, 3) := by decide +kernel
theorem dL_hangs_500 : decode cL_hangs 500 = .ok (.iconst 0, 1) := by decide +kernel
theorem dL_hangs_501 : decode cL_hangs 501 = .ok (.istore 9, 2) := by decide +kernel
theorem dL_hangs_503 : decode cL_hangs 503 = .ok (.iload 14, 2) := by decide +kernel
theorem dL_hangs_505 : decode cL_hangs 505 = .ok (.ifCond .ne 7, 3) := by decide +kernel
theorem dL_hangs_508 : decode cL_hangs 508 = .ok (.iconst 0, 1) := by decide +kernel
theorem dL_hangs_509 : decode cL_hangs 509 = .ok (.goto 10, 3) := by decide +kernel
theorem dL_hangs_512 : decode cL_hangs 512 = .ok (.aload_n 0, 1) := by decide +kernel
theorem dL_hangs_513 : decode cL_hangs 513 = .ok (.iload 14, 2) := by decide +kernel
theorem dL_hangs_515 : decode cL_hangs 515 = .ok (.iconst 4, 1) := by decide +kernel
theorem dL_hangs_516 : decode cL_hangs 516 = .ok (.invokevirtual 52, 3) := by decide +kernel
theorem dL_hangs_519 : decode cL_hangs 519 = .ok (.istore 17, 2) := by decide +kernel
theorem dL_hangs_521 : decode cL_hangs 521 = .ok (.iload 15, 2) := by decide +kernel
theorem dL_hangs_523 : decode cL_hangs 523 = .ok (.ifCond .ne 7, 3) := by decide +kernel
theorem dL_hangs_526 : decode cL_hangs 526 = .ok (.iconst 0, 1) := by decide +kernel
theorem dL_hangs_527 : decode cL_hangs 527 = .ok (.goto 10, 3) := by decide +kernel
theorem dL_hangs_530 : decode cL_hangs 530 = .ok (.aload_n 0, 1) := by decide +kernel
theorem dL_hangs_531 : decode cL_hangs 531 = .ok (.iload 15, 2) := by decide +kernel
theorem dL_hangs_533 : decode cL_hangs 533 = .ok (.iconst 4, 1) := by decide +kernel
theorem dL_hangs_534 : decode cL_hangs 534 = .ok (.invokevirtual 52, 3) := by decide +kernel
theorem dL_hangs_537 : decode cL_hangs 537 = .ok (.istore 18, 2) := by decide +kernel
theorem dL_hangs_539 : decode cL_hangs 539 = .ok (.iload 9, 2) := by decide +kernel
theorem dL_hangs_541 : decode cL_hangs 541 = .ok (.ifCond .eq 31, 3) := by decide +kernel
theorem dL_hangs_544 : decode cL_hangs 544 = .ok (.iload 16, 2) := by decide +kernel
theorem dL_hangs_546 : decode cL_hangs 546 = .ok (.ifCond .eq 22, 3) := by decide +kernel
theorem dL_hangs_549 : decode cL_hangs 549 = .ok (.iload 18, 2) := by decide +kernel
theorem dL_hangs_551 : decode cL_hangs 551 = .ok (.ifCond .lt 17, 3) := by decide +kernel
theorem dL_hangs_554 : decode cL_hangs 554 = .ok (.iload 17, 2) := by decide +kernel
theorem dL_hangs_556 : decode cL_hangs 556 = .ok (.ifCond .lt 16, 3) := by decide +kernel
theorem dL_hangs_559 : decode cL_hangs 559 = .ok (.iload 17, 2) := by decide +kernel
theorem dL_hangs_561 : decode cL_hangs 561 = .ok (.iload 18, 2) := by decide +kernel
theorem dL_hangs_563 : decode cL_hangs 563 = .ok (.iconst 1, 1) := by decide +kernel
theorem dL_hangs_564 : decode cL_hangs 564 = .ok (.iadd, 1) := by decide +kernel
theorem dL_hangs_565 : decode cL_hangs 565 = .ok (.if_icmp .gt 7, 3) := by decide +kernel
theorem dL_hangs_568 : decode cL_hangs 568 = .ok (.iconst 1, 1) := by decide +kernel
theorem dL_hangs_569 : decode cL_hangs 569 = .ok (.goto 4, 3) := by decide +kernel
theorem dL_hangs_572 : decode cL_hangs 572 = .ok (.iconst 0, 1) := by decide +kernel
theorem dL_hangs_573 : decode cL_hangs 573 = .ok (.istore 9, 2) := by decide +kernel
theorem dL_hangs_575 : decode cL_hangs 575 = .ok (.iinc 12 1, 3) := by decide +kernel
theorem dL_hangs_578 : decode cL_hangs 578 = .ok (.goto (-252), 3) := by decide +kernel
theorem dL_hangs_581 : decode cL_hangs 581 = .ok (.iinc 10 1, 3) := by decide +kernel
theorem dL_hangs_584 : decode cL_hangs 584 = .ok (.goto (-411), 3) := by decide +kernel
theorem dL_hangs_587 : decode cL_hangs 587 = .ok (.iconst 0, 1) := by decide +kernel
theorem dL_hangs_588 : decode cL_hangs 588 = .ok (.istore 10, 2) := by decide +kernel
theorem dL_hangs_590 : decode cL_hangs 590 = .ok (.iconst 0, 1) := by decide +kernel
theorem dL_hangs_591 : decode cL_hangs 591 = .ok (.istore 11, 2) := by decide +kernel
theorem dL_hangs_593 : decode cL_hangs 593 = .ok (.iload 11, 2) := by decide +kernel
theorem dL_hangs_595 : decode cL_hangs 595 = .ok (.iload 8, 2) := by decide +kernel
theorem dL_hangs_597 : decode cL_hangs 597 = .ok (.if_icmp .ge 55, 3) := by decide +kernel
theorem dL_hangs_600 : decode cL_hangs 600 = .ok (.iload 9, 2) := by decide +kernel
theorem dL_hangs_602 : decode cL_hangs 602 = .ok (.ifCond .eq 50, 3) := by decide +kernel
theorem dL_hangs_605 : decode cL_hangs 605 = .ok (.aload_n 0, 1) := by decide +kernel
theorem dL_hangs_606 : decode cL_hangs 606 = .ok (.aload_n 0, 1) := by decide +kernel
theorem dL_hangs_607 : decode cL_hangs 607 = .ok (.iload 11, 2) := by decide +kernel
theorem dL_hangs_609 : decode cL_hangs 609 = .ok (.invokevirtual 75, 3) := by decide +kernel
theorem dL_hangs_612 : decode cL_hangs 612 = .ok (.iconst 4, 1) := by decide +kernel
theorem dL_hangs_613 : decode cL_hangs 613 = .ok (.invokevirtual 58, 3) := by decide +kernel
theorem dL_hangs_616 : decode cL_hangs 616 = .ok (.istore 12, 2) := by decide +kernel
theorem dL_hangs_618 : decode cL_hangs 618 = .ok (.iload 12, 2) := by decide +kernel
theorem dL_hangs_620 : decode cL_hangs 620 = .ok (.ifCond .le 19, 3) := by decide +kernel
theorem dL_hangs_623 : decode cL_hangs 623 = .ok (.iload 11, 2) := by decide +kernel
theorem dL_hangs_625 : decode cL_hangs 625 = .ok (.ifCond .eq 10, 3) := by decide +kernel
theorem dL_hangs_628 : decode cL_hangs 628 = .ok (.iload 12, 2) := by decide +kernel
theorem dL_hangs_630 : decode cL_hangs 630 = .ok (.iload 10, 2) := by decide +kernel
theorem dL_hangs_632 : decode cL_hangs 632 = .ok (.if_icmp .gt 7, 3) := by decide +kernel
theorem dL_hangs_635 : decode cL_hangs 635 = .ok (.iconst 1, 1) := by decide +kernel
theorem dL_hangs_636 : decode cL_hangs 636 = .ok (.goto 4, 3) := by decide +kernel
theorem dL_hangs_639 : decode cL_hangs 639 = .ok (.iconst 0, 1) := by decide +kernel
theorem dL_hangs_640 : decode cL_hangs 640 = .ok (.istore 9, 2) := by decide +kernel
theorem dL_hangs_642 : decode cL_hangs 642 = .ok (.iload 12, 2) := by decide +kernel
theorem dL_hangs_644 : decode cL_hangs 644 = .ok (.istore 10, 2) := by decide +kernel
theorem dL_hangs_646 : decode cL_hangs 646 = .ok (.iinc 11 1, 3) := by decide +kernel
theorem dL_hangs_649 : decode cL_hangs 649 = .ok (.goto (-56), 3) := by decide +kernel
theorem dL_hangs_652 : decode cL_hangs 652 = .ok (.iload 9, 2) := by decide +kernel
theorem dL_hangs_654 : decode cL_hangs 654 = .ok (.ifCond .eq 88, 3) := by decide +kernel
theorem dL_hangs_657 : decode cL_hangs 657 = .ok (.aload_n 0, 1) := by decide +kernel
theorem dL_hangs_658 : decode cL_hangs 658 = .ok (.iload 8, 2) := by decide +kernel
theorem dL_hangs_660 : decode cL_hangs 660 = .ok (.invokevirtual 75, 3) := by decide +kernel
theorem dL_hangs_663 : decode cL_hangs 663 = .ok (.ldc 62, 2) := by decide +kernel
theorem dL_hangs_665 : decode cL_hangs 665 = .ok (.if_icmp .ne 77, 3) := by decide +kernel
theorem dL_hangs_668 : decode cL_hangs 668 = .ok (.aload_n 0, 1) := by decide +kernel
theorem dL_hangs_669 : decode cL_hangs 669 = .ok (.iconst (-1), 1) := by decide +kernel
theorem dL_hangs_670 : decode cL_hangs 670 = .ok (.invokevirtual 75, 3) := by decide +kernel
theorem dL_hangs_673 : decode cL_hangs 673 = .ok (.ldc 78, 2) := by decide +kernel
theorem dL_hangs_675 : decode cL_hangs 675 = .ok (.if_icmp .ne 67, 3) := by decide +kernel
theorem dL_hangs_678 : decode cL_hangs 678 = .ok (.aload_n 0, 1) := by decide +kernel
theorem dL_hangs_679 : decode cL_hangs 679 = .ok (.iconst 2, 1) := by decide +kernel
theorem dL_hangs_680 : decode cL_hangs 680 = .ok (.invokevirtual 49, 3) := by decide +kernel
theorem dL_hangs_683 : decode cL_hangs 683 = .ok (.iload 7, 2) := by decide +kernel
theorem dL_hangs_685 : decode cL_hangs 685 = .ok (.if_icmp .ne 57, 3) := by decide +kernel
theorem dL_hangs_688 : decode cL_hangs 688 = .ok (.aload_n 0, 1) := by decide +kernel
theorem dL_hangs_689 : decode cL_hangs 689 = .ok (.iconst 3, 1) := by decide +kernel
theorem dL_hangs_690 : decode cL_hangs 690 = .ok (.invokevirtual 49, 3) := by decide +kernel
theorem dL_hangs_693 : decode cL_hangs 693 = .ok (.iload_n 2, 1) := by decide +kernel
theorem dL_hangs_694 : decode cL_hangs 694 = .ok (.if_icmp .ne 48, 3) := by decide +kernel
theorem dL_hangs_697 : decode cL_hangs 697 = .ok (.aload_n 0, 1) := by decide +kernel
theorem dL_hangs_698 : decode cL_hangs 698 = .ok (.iconst 4, 1) := by decide +kernel
theorem dL_hangs_699 : decode cL_hangs 699 = .ok (.invokevirtual 49, 3) := by decide +kernel
theorem dL_hangs_702 : decode cL_hangs 702 = .ok (.iload_n 3, 1) := by decide +kernel
theorem dL_hangs_703 : decode cL_hangs 703 = .ok (.if_icmp .ne 39, 3) := by decide +kernel
theorem dL_hangs_706 : decode cL_hangs 706 = .ok (.aload_n 0, 1) := by decide +kernel
theorem dL_hangs_707 : decode cL_hangs 707 = .ok (.iconst 5, 1) := by decide +kernel
theorem dL_hangs_708 : decode cL_hangs 708 = .ok (.invokevirtual 49, 3) := by decide +kernel
theorem dL_hangs_711 : decode cL_hangs 711 = .ok (.iload 4, 2) := by decide +kernel
theorem dL_hangs_713 : decode cL_hangs 713 = .ok (.if_icmp .ne 29, 3) := by decide +kernel
theorem dL_hangs_716 : decode cL_hangs 716 = .ok (.aload_n 0, 1) := by decide +kernel
theorem dL_hangs_717 : decode cL_hangs 717 = .ok (.bipush 6, 2) := by decide +kernel
theorem dL_hangs_719 : decode cL_hangs 719 = .ok (.invokevirtual 49, 3) := by decide +kernel
theorem dL_hangs_722 : decode cL_hangs 722 = .ok (.iload 5, 2) := by decide +kernel
theorem dL_hangs_724 : decode cL_hangs 724 = .ok (.if_icmp .ne 18, 3) := by decide +kernel
theorem dL_hangs_727 : decode cL_hangs 727 = .ok (.aload_n 0, 1) := by decide +kernel
theorem dL_hangs_728 : decode cL_hangs 728 = .ok (.bipush 7, 2) := by decide +kernel
theorem dL_hangs_730 : decode cL_hangs 730 = .ok (.invokevirtual 49, 3) := by decide +kernel
theorem dL_hangs_733 : decode cL_hangs 733 = .ok (.iload 6, 2) := by decide +kernel
theorem dL_hangs_735 : decode cL_hangs 735 = .ok (.if_icmp .ne 7, 3) := by decide +kernel
theorem dL_hangs_738 : decode cL_hangs 738 = .ok (.iconst 1, 1) := by decide +kernel
theorem dL_hangs_739 : decode cL_hangs 739 = .ok (.goto 4, 3) := by decide +kernel
theorem dL_hangs_742 : decode cL_hangs 742 = .ok (.iconst 0, 1) := by decide +kernel
theorem dL_hangs_743 : decode cL_hangs 743 = .ok (.istore 9, 2) := by decide +kernel
theorem dL_hangs_745 : decode cL_hangs 745 = .ok (.iload 9, 2) := by decide +kernel
theorem dL_hangs_747 : decode cL_hangs 747 = .ok (.ifCond .eq 53, 3) := by decide +kernel
theorem dL_hangs_750 : decode cL_hangs 750 = .ok (.iload_n 2, 1) := by decide +kernel
theorem dL_hangs_751 : decode cL_hangs 751 = .ok (.ifCond .ne 7, 3) := by decide +kernel
theorem dL_hangs_754 : decode cL_hangs 754 = .ok (.iconst 1, 1) := by decide +kernel
theorem dL_hangs_755 : decode cL_hangs 755 = .ok (.goto 4, 3) := by decide +kernel
theorem dL_hangs_758 : decode cL_hangs 758 = .ok (.iconst 0, 1) := by decide +kernel
theorem dL_hangs_759 : decode cL_hangs 759 = .ok (.aload_n 0, 1) := by decide +kernel
theorem dL_hangs_760 : decode cL_hangs 760 = .ok (.invokevirtual 79, 3) := by decide +kernel
theorem dL_hangs_763 : decode cL_hangs 763 = .ok (.dconst 0, 1) := by decide +kernel
theorem dL_hangs_764 : decode cL_hangs 764 = .ok (.dcmp .l, 1) := by decide +kernel
theorem dL_hangs_765 : decode cL_hangs 765 = .ok (.ifCond .ne 7, 3) := by decide +kernel
theorem dL_hangs_768 : decode cL_hangs 768 = .ok (.iconst 1, 1) := by decide +kernel
theorem dL_hangs_769 : decode cL_hangs 769 = .ok (.goto 4, 3) := by decide +kernel
theorem dL_hangs_772 : decode cL_hangs 772 = .ok (.iconst 0, 1) := by decide +kernel
theorem dL_hangs_773 : decode cL_hangs 773 = .ok (.if_icmp .ne 27, 3) := by decide +kernel
theorem dL_hangs_776 : decode cL_hangs 776 = .ok (.aload_n 0, 1) := by decide +kernel
theorem dL_hangs_777 : decode cL_hangs 777 = .ok (.invokevirtual 79, 3) := by decide +kernel
theorem dL_hangs_780 : decode cL_hangs 780 = .ok (.dconst 1, 1) := by decide +kernel
theorem dL_hangs_781 : decode cL_hangs 781 = .ok (.dcmp .g, 1) := by decide +kernel
theorem dL_hangs_782 : decode cL_hangs 782 = .ok (.ifCond .gt 18, 3) := by decide +kernel
theorem dL_hangs_785 : decode cL_hangs 785 = .ok (.iload_n 2, 1) := by decide +kernel
theorem dL_hangs_786 : decode cL_hangs 786 = .ok (.ifCond .gt 10, 3) := by decide +kernel
theorem dL_hangs_789 : decode cL_hangs 789 = .ok (.aload_n 0, 1) := by decide +kernel
theorem dL_hangs_790 : decode cL_hangs 790 = .ok (.invokevirtual 83, 3) := by decide +kernel
theorem dL_hangs_793 : decode cL_hangs 793 = .ok (.ifCond .ne 7, 3) := by decide +kernel
theorem dL_hangs_796 : decode cL_hangs 796 = .ok (.iconst 1, 1) := by decide +kernel
theorem dL_hangs_797 : decode cL_hangs 797 = .ok (.goto 4, 3) := by decide +kernel
theorem dL_hangs_800 : decode cL_hangs 800 = .ok (.iconst 0, 1) := by decide +kernel
theorem dL_hangs_801 : decode cL_hangs 801 = .ok (.ireturn, 1) := by decide +kernel
theorem dL_law_0 : decode cL_law 0 = .ok (.new 10, 3) := by decide +kernel
theorem dL_law_3 : decode cL_law 3 = .ok (.dup, 1) := by decide +kernel
theorem dL_law_4 : decode cL_law 4 = .ok (.invokespecial 86, 3) := by decide +kernel
theorem dL_law_7 : decode cL_law 7 = .ok (.astore_n 1, 1) := by decide +kernel
theorem dL_law_8 : decode cL_law 8 = .ok (.aload_n 1, 1) := by decide +kernel
theorem dL_law_9 : decode cL_law 9 = .ok (.invokevirtual 87, 3) := by decide +kernel
theorem dL_law_12 : decode cL_law 12 = .ok (.ldc 62, 2) := by decide +kernel
theorem dL_law_14 : decode cL_law 14 = .ok (.if_icmp .ne 26, 3) := by decide +kernel
theorem dL_law_17 : decode cL_law 17 = .ok (.aload_n 1, 1) := by decide +kernel
theorem dL_law_18 : decode cL_law 18 = .ok (.invokevirtual 35, 3) := by decide +kernel
theorem dL_law_21 : decode cL_law 21 = .ok (.ldc 90, 2) := by decide +kernel
theorem dL_law_23 : decode cL_law 23 = .ok (.if_icmp .ne 17, 3) := by decide +kernel
theorem dL_law_26 : decode cL_law 26 = .ok (.aload_n 1, 1) := by decide +kernel
theorem dL_law_27 : decode cL_law 27 = .ok (.bipush 8, 2) := by decide +kernel
theorem dL_law_29 : decode cL_law 29 = .ok (.invokevirtual 49, 3) := by decide +kernel
theorem dL_law_32 : decode cL_law 32 = .ok (.iconst 1, 1) := by decide +kernel
theorem dL_law_33 : decode cL_law 33 = .ok (.if_icmp .ne 7, 3) := by decide +kernel
theorem dL_law_36 : decode cL_law 36 = .ok (.iconst 1, 1) := by decide +kernel
theorem dL_law_37 : decode cL_law 37 = .ok (.goto 4, 3) := by decide +kernel
theorem dL_law_40 : decode cL_law 40 = .ok (.iconst 0, 1) := by decide +kernel
theorem dL_law_41 : decode cL_law 41 = .ok (.istore_n 2, 1) := by decide +kernel
theorem dL_law_42 : decode cL_law 42 = .ok (.iconst 0, 1) := by decide +kernel
theorem dL_law_43 : decode cL_law 43 = .ok (.istore_n 3, 1) := by decide +kernel
theorem dL_law_44 : decode cL_law 44 = .ok (.iload_n 3, 1) := by decide +kernel
theorem dL_law_45 : decode cL_law 45 = .ok (.bipush 44, 2) := by decide +kernel
theorem dL_law_47 : decode cL_law 47 = .ok (.if_icmp .ge 318, 3) := by decide +kernel
theorem dL_law_50 : decode cL_law 50 = .ok (.iload_n 2, 1) := by decide +kernel
theorem dL_law_51 : decode cL_law 51 = .ok (.ifCond .eq 314, 3) := by decide +kernel
theorem dL_law_54 : decode cL_law 54 = .ok (.iload_n 3, 1) := by decide +kernel
theorem dL_law_55 : decode cL_law 55 = .ok (.iconst 5, 1) := by decide +kernel
theorem dL_law_56 : decode cL_law 56 = .ok (.if_icmp .ge 14, 3) := by decide +kernel
theorem dL_law_59 : decode cL_law 59 = .ok (.bipush 16, 2) := by decide +kernel
theorem dL_law_61 : decode cL_law 61 = .ok (.aload_n 0, 1) := by decide +kernel
theorem dL_law_62 : decode cL_law 62 = .ok (.iload_n 3, 1) := by decide +kernel
theorem dL_law_63 : decode cL_law 63 = .ok (.invokestatic 91, 3) := by decide +kernel
theorem dL_law_66 : decode cL_law 66 = .ok (.imul, 1) := by decide +kernel
theorem dL_law_67 : decode cL_law 67 = .ok (.goto 8, 3) := by decide +kernel
theorem dL_law_70 : decode cL_law 70 = .ok (.aload_n 0, 1) := by decide +kernel
theorem dL_law_71 : decode cL_law 71 = .ok (.iload_n 3, 1) := by decide +kernel
theorem dL_law_72 : decode cL_law 72 = .ok (.invokestatic 91, 3) := by decide +kernel
theorem dL_law_75 : decode cL_law 75 = .ok (.istore 4, 2) := by decide +kernel
theorem dL_law_77 : decode cL_law 77 = .ok (.iload 4, 2) := by decide +kernel
theorem dL_law_79 : decode cL_law 79 = .ok (.ldc 8, 2) := by decide +kernel
theorem dL_law_81 : decode cL_law 81 = .ok (.iand, 1) := by decide +kernel
theorem dL_law_82 : decode cL_law 82 = .ok (.istore 4, 2) := by decide +kernel
theorem dL_law_84 : decode cL_law 84 = .ok (.aload_n 1, 1) := by decide +kernel
theorem dL_law_85 : decode cL_law 85 = .ok (.invokestatic 95, 3) := by decide +kernel
theorem dL_law_88 : decode cL_law 88 = .ok (.istore 5, 2) := by decide +kernel
theorem dL_law_90 : decode cL_law 90 = .ok (.aload_n 1, 1) := by decide +kernel
theorem dL_law_91 : decode cL_law 91 = .ok (.bipush 11, 2) := by decide +kernel
theorem dL_law_93 : decode cL_law 93 = .ok (.invokevirtual 49, 3) := by decide +kernel
theorem dL_law_96 : decode cL_law 96 = .ok (.istore 6, 2) := by decide +kernel
theorem dL_law_98 : decode cL_law 98 = .ok (.iload 4, 2) := by decide +kernel
theorem dL_law_100 : decode cL_law 100 = .ok (.bipush 16, 2) := by decide +kernel
theorem dL_law_102 : decode cL_law 102 = .ok (.irem, 1) := by decide +kernel
theorem dL_law_103 : decode cL_law 103 = .ok (.iconst 5, 1) := by decide +kernel
theorem dL_law_104 : decode cL_law 104 = .ok (.if_icmp .ne 19, 3) := by decide +kernel
theorem dL_law_107 : decode cL_law 107 = .ok (.aload_n 1, 1) := by decide +kernel
theorem dL_law_108 : decode cL_law 108 = .ok (.iload 4, 2) := by decide +kernel
theorem dL_law_110 : decode cL_law 110 = .ok (.bipush 16, 2) := by decide +kernel
theorem dL_law_112 : decode cL_law 112 = .ok (.idiv, 1) := by decide +kernel
theorem dL_law_113 : decode cL_law 113 = .ok (.bipush 9, 2) := by decide +kernel
theorem dL_law_115 : decode cL_law 115 = .ok (.irem, 1) := by decide +kernel
theorem dL_law_116 : decode cL_law 116 = .ok (.iconst 4, 1) := by decide +kernel
theorem dL_law_117 : decode cL_law 117 = .ok (.invokevirtual 58, 3) := by decide +kernel
theorem dL_law_120 : decode cL_law 120 = .ok (.goto 4, 3) := by decide +kernel
theorem dL_law_123 : decode cL_law 123 = .ok (.iconst 0, 1) := by decide +kernel
theorem dL_law_124 : decode cL_law 124 = .ok (.istore 7, 2) := by decide +kernel
theorem dL_law_126 : decode cL_law 126 = .ok (.aload_n 1, 1) := by decide +kernel
theorem dL_law_127 : decode cL_law 127 = .ok (.iload 4, 2) := by decide +kernel
theorem dL_law_129 : decode cL_law 129 = .ok (.invokestatic 99, 3) := by decide +kernel
theorem dL_law_132 : decode cL_law 132 = .ok (.istore 8, 2) := by decide +kernel
theorem dL_law_134 : decode cL_law 134 = .ok (.iload 8, 2) := by decide +kernel
theorem dL_law_136 : decode cL_law 136 = .ok (.ifCond .ge 32, 3) := by decide +kernel
theorem dL_law_139 : decode cL_law 139 = .ok (.aload_n 1, 1) := by decide +kernel
theorem dL_law_140 : decode cL_law 140 = .ok (.invokestatic 95, 3) := by decide +kernel
theorem dL_law_143 : decode cL_law 143 = .ok (.iload 5, 2) := by decide +kernel
theorem dL_law_145 : decode cL_law 145 = .ok (.if_icmp .ne 18, 3) := by decide +kernel
theorem dL_law_148 : decode cL_law 148 = .ok (.aload_n 1, 1) := by decide +kernel
theorem dL_law_149 : decode cL_law 149 = .ok (.bipush 11, 2) := by decide +kernel
theorem dL_law_151 : decode cL_law 151 = .ok (.invokevirtual 49, 3) := by decide +kernel
theorem dL_law_154 : decode cL_law 154 = .ok (.iload 6, 2) := by decide +kernel
theorem dL_law_156 : decode cL_law 156 = .ok (.if_icmp .ne 7, 3) := by decide +kernel
theorem dL_law_159 : decode cL_law 159 = .ok (.iconst 1, 1) := by decide +kernel
theorem dL_law_160 : decode cL_law 160 = .ok (.goto 4, 3) := by decide +kernel
theorem dL_law_163 : decode cL_law 163 = .ok (.iconst 0, 1) := by decide +kernel
theorem dL_law_164 : decode cL_law 164 = .ok (.istore_n 2, 1) := by decide +kernel
theorem dL_law_165 : decode cL_law 165 = .ok (.goto 194, 3) := by decide +kernel
theorem dL_law_168 : decode cL_law 168 = .ok (.aload_n 1, 1) := by decide +kernel
theorem dL_law_169 : decode cL_law 169 = .ok (.bipush 11, 2) := by decide +kernel
theorem dL_law_171 : decode cL_law 171 = .ok (.invokevirtual 49, 3) := by decide +kernel
theorem dL_law_174 : decode cL_law 174 = .ok (.iload 6, 2) := by decide +kernel
theorem dL_law_176 : decode cL_law 176 = .ok (.iconst 5, 1) := by decide +kernel
theorem dL_law_177 : decode cL_law 177 = .ok (.if_icmp .ne 7, 3) := by decide +kernel
theorem dL_law_180 : decode cL_law 180 = .ok (.iconst 5, 1) := by decide +kernel
theorem dL_law_181 : decode cL_law 181 = .ok (.goto 7, 3) := by decide +kernel
theorem dL_law_184 : decode cL_law 184 = .ok (.iload 6, 2) := by decide +kernel
theorem dL_law_186 : decode cL_law 186 = .ok (.iconst 1, 1) := by decide +kernel
theorem dL_law_187 : decode cL_law 187 = .ok (.iadd, 1) := by decide +kernel
theorem dL_law_188 : decode cL_law 188 = .ok (.if_icmp .ne 53, 3) := by decide +kernel
theorem dL_law_191 : decode cL_law 191 = .ok (.iload 4, 2) := by decide +kernel
theorem dL_law_193 : decode cL_law 193 = .ok (.iconst 4, 1) := by decide +kernel
theorem dL_law_194 : decode cL_law 194 = .ok (.irem, 1) := by decide +kernel
theorem dL_law_195 : decode cL_law 195 = .ok (.ifCond .gt 10, 3) := by decide +kernel
theorem dL_law_198 : decode cL_law 198 = .ok (.aload_n 1, 1) := by decide +kernel
theorem dL_law_199 : decode cL_law 199 = .ok (.invokestatic 103, 3) := by decide +kernel
theorem dL_law_202 : decode cL_law 202 = .ok (.ifCond .eq 39, 3) := by decide +kernel
theorem dL_law_205 : decode cL_law 205 = .ok (.iload 4, 2) := by decide +kernel
theorem dL_law_207 : decode cL_law 207 = .ok (.bipush 16, 2) := by decide +kernel
theorem dL_law_209 : decode cL_law 209 = .ok (.irem, 1) := by decide +kernel
theorem dL_law_210 : decode cL_law 210 = .ok (.iconst 5, 1) := by decide +kernel
theorem dL_law_211 : decode cL_law 211 = .ok (.if_icmp .ne 26, 3) := by decide +kernel
theorem dL_law_214 : decode cL_law 214 = .ok (.iload 8, 2) := by decide +kernel
theorem dL_law_216 : decode cL_law 216 = .ok (.iload 7, 2) := by decide +kernel
theorem dL_law_218 : decode cL_law 218 = .ok (.if_icmp .ne 23, 3) := by decide +kernel
theorem dL_law_221 : decode cL_law 221 = .ok (.aload_n 1, 1) := by decide +kernel
theorem dL_law_222 : decode cL_law 222 = .ok (.iload 4, 2) := by decide +kernel
theorem dL_law_224 : decode cL_law 224 = .ok (.bipush 16, 2) := by decide +kernel
theorem dL_law_226 : decode cL_law 226 = .ok (.idiv, 1) := by decide +kernel
theorem dL_law_227 : decode cL_law 227 = .ok (.bipush 9, 2) := by decide +kernel
theorem dL_law_229 : decode cL_law 229 = .ok (.irem, 1) := by decide +kernel
theorem dL_law_230 : decode cL_law 230 = .ok (.iconst 4, 1) := by decide +kernel
theorem dL_law_231 : decode cL_law 231 = .ok (.invokevirtual 58, 3) := by decide +kernel
theorem dL_law_234 : decode cL_law 234 = .ok (.ifCond .ne 7, 3) := by decide +kernel
theorem dL_law_237 : decode cL_law 237 = .ok (.iconst 1, 1) := by decide +kernel
theorem dL_law_238 : decode cL_law 238 = .ok (.goto 4, 3) := by decide +kernel
theorem dL_law_241 : decode cL_law 241 = .ok (.iconst 0, 1) := by decide +kernel
theorem dL_law_242 : decode cL_law 242 = .ok (.istore_n 2, 1) := by decide +kernel
theorem dL_law_243 : decode cL_law 243 = .ok (.iload_n 2, 1) := by decide +kernel
theorem dL_law_244 : decode cL_law 244 = .ok (.ifCond .eq 35, 3) := by decide +kernel
theorem dL_law_247 : decode cL_law 247 = .ok (.iload 4, 2) := by decide +kernel
theorem dL_law_249 : decode cL_law 249 = .ok (.bipush 16, 2) := by decide +kernel
theorem dL_law_251 : decode cL_law 251 = .ok (.irem, 1) := by decide +kernel
theorem dL_law_252 : decode cL_law 252 = .ok (.bipush 10, 2) := by decide +kernel
theorem dL_law_254 : decode cL_law 254 = .ok (.if_icmp .lt 21, 3) := by decide +kernel
theorem dL_law_257 : decode cL_law 257 = .ok (.aload_n 1, 1) := by decide +kernel
theorem dL_law_258 : decode cL_law 258 = .ok (.iload 4, 2) := by decide +kernel
theorem dL_law_260 : decode cL_law 260 = .ok (.bipush 16, 2) := by decide +kernel
theorem dL_law_262 : decode cL_law 262 = .ok (.idiv, 1) := by decide +kernel
theorem dL_law_263 : decode cL_law 263 = .ok (.bipush 9, 2) := by decide +kernel
theorem dL_law_265 : decode cL_law 265 = .ok (.irem, 1) := by decide +kernel
theorem dL_law_266 : decode cL_law 266 = .ok (.iconst 4, 1) := by decide +kernel
theorem dL_law_267 : decode cL_law 267 = .ok (.invokevirtual 58, 3) := by decide +kernel
theorem dL_law_270 : decode cL_law 270 = .ok (.iload 8, 2) := by decide +kernel
theorem dL_law_272 : decode cL_law 272 = .ok (.if_icmp .ne 7, 3) := by decide +kernel
theorem dL_law_275 : decode cL_law 275 = .ok (.iconst 1, 1) := by decide +kernel
theorem dL_law_276 : decode cL_law 276 = .ok (.goto 4, 3) := by decide +kernel
theorem dL_law_279 : decode cL_law 279 = .ok (.iconst 0, 1) := by decide +kernel
theorem dL_law_280 : decode cL_law 280 = .ok (.istore_n 2, 1) := by decide +kernel
theorem dL_law_281 : decode cL_law 281 = .ok (.iload_n 2, 1) := by decide +kernel
theorem dL_law_282 : decode cL_law 282 = .ok (.ifCond .eq 77, 3) := by decide +kernel
theorem dL_law_285 : decode cL_law 285 = .ok (.iload 4, 2) := by decide +kernel
theorem dL_law_287 : decode cL_law 287 = .ok (.bipush 7, 2) := by decide +kernel
theorem dL_law_289 : decode cL_law 289 = .ok (.idiv, 1) := by decide +kernel
theorem dL_law_290 : decode cL_law 290 = .ok (.iconst 5, 1) := by decide +kernel
theorem dL_law_291 : decode cL_law 291 = .ok (.irem, 1) := by decide +kernel
theorem dL_law_292 : decode cL_law 292 = .ok (.ifCond .ne 67, 3) := by decide +kernel
theorem dL_law_295 : decode cL_law 295 = .ok (.aload_n 1, 1) := by decide +kernel
theorem dL_law_296 : decode cL_law 296 = .ok (.invokestatic 95, 3) := by decide +kernel
theorem dL_law_299 : decode cL_law 299 = .ok (.istore 9, 2) := by decide +kernel
theorem dL_law_301 : decode cL_law 301 = .ok (.aload_n 1, 1) := by decide +kernel
theorem dL_law_302 : decode cL_law 302 = .ok (.invokevirtual 107, 3) := by decide +kernel
theorem dL_law_305 : decode cL_law 305 = .ok (.istore 10, 2) := by decide +kernel
theorem dL_law_307 : decode cL_law 307 = .ok (.aload_n 1, 1) := by decide +kernel
theorem dL_law_308 : decode cL_law 308 = .ok (.invokevirtual 87, 3) := by decide +kernel
theorem dL_law_311 : decode cL_law 311 = .ok (.iload 6, 2) := by decide +kernel
theorem dL_law_313 : decode cL_law 313 = .ok (.iconst 5, 1) := by decide +kernel
theorem dL_law_314 : decode cL_law 314 = .ok (.if_icmp .ne 7, 3) := by decide +kernel
theorem dL_law_317 : decode cL_law 317 = .ok (.iconst 4, 1) := by decide +kernel
theorem dL_law_318 : decode cL_law 318 = .ok (.goto 5, 3) := by decide +kernel
theorem dL_law_321 : decode cL_law 321 = .ok (.iload 6, 2) := by decide +kernel
theorem dL_law_323 : decode cL_law 323 = .ok (.if_icmp .ne 34, 3) := by decide +kernel
theorem dL_law_326 : decode cL_law 326 = .ok (.aload_n 1, 1) := by decide +kernel
theorem dL_law_327 : decode cL_law 327 = .ok (.invokestatic 95, 3) := by decide +kernel
theorem dL_law_330 : decode cL_law 330 = .ok (.iload 5, 2) := by decide +kernel
theorem dL_law_332 : decode cL_law 332 = .ok (.if_icmp .ne 25, 3) := by decide +kernel
theorem dL_law_335 : decode cL_law 335 = .ok (.aload_n 1, 1) := by decide +kernel
theorem dL_law_336 : decode cL_law 336 = .ok (.invokevirtual 35, 3) := by decide +kernel
theorem dL_law_339 : decode cL_law 339 = .ok (.iload 10, 2) := by decide +kernel
theorem dL_law_341 : decode cL_law 341 = .ok (.if_icmp .ne 16, 3) := by decide +kernel
theorem dL_law_344 : decode cL_law 344 = .ok (.aload_n 1, 1) := by decide +kernel
theorem dL_law_345 : decode cL_law 345 = .ok (.invokestatic 95, 3) := by decide +kernel
theorem dL_law_348 : decode cL_law 348 = .ok (.iload 9, 2) := by decide +kernel
theorem dL_law_350 : decode cL_law 350 = .ok (.if_icmp .ne 7, 3) := by decide +kernel
theorem dL_law_353 : decode cL_law 353 = .ok (.iconst 1, 1) := by decide +kernel
theorem dL_law_354 : decode cL_law 354 = .ok (.goto 4, 3) := by decide +kernel
theorem dL_law_357 : decode cL_law 357 = .ok (.iconst 0, 1) := by decide +kernel
theorem dL_law_358 : decode cL_law 358 = .ok (.istore_n 2, 1) := by decide +kernel
theorem dL_law_359 : decode cL_law 359 = .ok (.iinc 3 1, 3) := by decide +kernel
theorem dL_law_362 : decode cL_law 362 = .ok (.goto (-318), 3) := by decide +kernel
theorem dL_law_365 : decode cL_law 365 = .ok (.iload_n 2, 1) := by decide +kernel
theorem dL_law_366 : decode cL_law 366 = .ok (.ifCond .eq 14, 3) := by decide +kernel
theorem dL_law_369 : decode cL_law 369 = .ok (.aload_n 1, 1) := by decide +kernel
theorem dL_law_370 : decode cL_law 370 = .ok (.invokestatic 103, 3) := by decide +kernel
theorem dL_law_373 : decode cL_law 373 = .ok (.ifCond .eq 7, 3) := by decide +kernel
theorem dL_law_376 : decode cL_law 376 = .ok (.iconst 1, 1) := by decide +kernel
theorem dL_law_377 : decode cL_law 377 = .ok (.goto 4, 3) := by decide +kernel
theorem dL_law_380 : decode cL_law 380 = .ok (.iconst 0, 1) := by decide +kernel
theorem dL_law_381 : decode cL_law 381 = .ok (.ireturn, 1) := by decide +kernel
