theorem dX12_init_0 : decode cX12_init 0 = .ok (.aload_n 0, 1) := by decide +kernel
theorem dX12_init_1 : decode cX12_init 1 = .ok (.invokespecial 3, 3) := by decide +kernel
theorem dX12_init_4 : decode cX12_init 4 = .ok (.aload_n 0, 1) := by decide +kernel
theorem dX12_init_5 : decode cX12_init 5 = .ok (.sipush 267, 3) := by decide +kernel
theorem dX12_init_8 : decode cX12_init 8 = .ok (.newarray .int, 2) := by decide +kernel
theorem dX12_init_10 : decode cX12_init 10 = .ok (.putfield 9, 3) := by decide +kernel
theorem dX12_init_13 : decode cX12_init 13 = .ok (.aload_n 0, 1) := by decide +kernel
theorem dX12_init_14 : decode cX12_init 14 = .ok (.sipush 267, 3) := by decide +kernel
theorem dX12_init_17 : decode cX12_init 17 = .ok (.newarray .int, 2) := by decide +kernel
theorem dX12_init_19 : decode cX12_init 19 = .ok (.putfield 13, 3) := by decide +kernel
theorem dX12_init_22 : decode cX12_init 22 = .ok (.aload_n 0, 1) := by decide +kernel
theorem dX12_init_23 : decode cX12_init 23 = .ok (.sipush 267, 3) := by decide +kernel
theorem dX12_init_26 : decode cX12_init 26 = .ok (.newarray .int, 2) := by decide +kernel
theorem dX12_init_28 : decode cX12_init 28 = .ok (.putfield 16, 3) := by decide +kernel
theorem dX12_init_31 : decode cX12_init 31 = .ok (.aload_n 0, 1) := by decide +kernel
theorem dX12_init_32 : decode cX12_init 32 = .ok (.bipush 6, 2) := by decide +kernel
theorem dX12_init_34 : decode cX12_init 34 = .ok (.newarray .int, 2) := by decide +kernel
theorem dX12_init_36 : decode cX12_init 36 = .ok (.putfield 19, 3) := by decide +kernel
theorem dX12_init_39 : decode cX12_init 39 = .ok (.aload_n 0, 1) := by decide +kernel
theorem dX12_init_40 : decode cX12_init 40 = .ok (.iconst 3, 1) := by decide +kernel
theorem dX12_init_41 : decode cX12_init 41 = .ok (.newarray .int, 2) := by decide +kernel
theorem dX12_init_43 : decode cX12_init 43 = .ok (.putfield 22, 3) := by decide +kernel
theorem dX12_init_46 : decode cX12_init 46 = .ok (.aload_n 0, 1) := by decide +kernel
theorem dX12_init_47 : decode cX12_init 47 = .ok (.bipush 50, 2) := by decide +kernel
theorem dX12_init_49 : decode cX12_init 49 = .ok (.newarray .int, 2) := by decide +kernel
theorem dX12_init_51 : decode cX12_init 51 = .ok (.putfield 25, 3) := by decide +kernel
theorem dX12_init_54 : decode cX12_init 54 = .ok (.aload_n 0, 1) := by decide +kernel
theorem dX12_init_55 : decode cX12_init 55 = .ok (.bipush 50, 2) := by decide +kernel
theorem dX12_init_57 : decode cX12_init 57 = .ok (.newarray .int, 2) := by decide +kernel
theorem dX12_init_59 : decode cX12_init 59 = .ok (.putfield 28, 3) := by decide +kernel
theorem dX12_init_62 : decode cX12_init 62 = .ok (.aload_n 0, 1) := by decide +kernel
theorem dX12_init_63 : decode cX12_init 63 = .ok (.ldc 31, 2) := by decide +kernel
theorem dX12_init_65 : decode cX12_init 65 = .ok (.newarray .int, 2) := by decide +kernel
theorem dX12_init_67 : decode cX12_init 67 = .ok (.putfield 32, 3) := by decide +kernel
theorem dX12_init_70 : decode cX12_init 70 = .ok (.aload_n 0, 1) := by decide +kernel
theorem dX12_init_71 : decode cX12_init 71 = .ok (.sipush 549, 3) := by decide +kernel
theorem dX12_init_74 : decode cX12_init 74 = .ok (.newarray .int, 2) := by decide +kernel
theorem dX12_init_76 : decode cX12_init 76 = .ok (.putfield 35, 3) := by decide +kernel
theorem dX12_init_79 : decode cX12_init 79 = .ok (.aload_n 0, 1) := by decide +kernel
theorem dX12_init_80 : decode cX12_init 80 = .ok (.bipush 40, 2) := by decide +kernel
theorem dX12_init_82 : decode cX12_init 82 = .ok (.newarray .int, 2) := by decide +kernel
theorem dX12_init_84 : decode cX12_init 84 = .ok (.putfield 38, 3) := by decide +kernel
theorem dX12_init_87 : decode cX12_init 87 = .ok (.aload_n 0, 1) := by decide +kernel
theorem dX12_init_88 : decode cX12_init 88 = .ok (.iconst 4, 1) := by decide +kernel
theorem dX12_init_89 : decode cX12_init 89 = .ok (.newarray .int, 2) := by decide +kernel
theorem dX12_init_91 : decode cX12_init 91 = .ok (.putfield 41, 3) := by decide +kernel
theorem dX12_init_94 : decode cX12_init 94 = .ok (.aload_n 0, 1) := by decide +kernel
theorem dX12_init_95 : decode cX12_init 95 = .ok (.iconst 4, 1) := by decide +kernel
theorem dX12_init_96 : decode cX12_init 96 = .ok (.newarray .int, 2) := by decide +kernel
theorem dX12_init_98 : decode cX12_init 98 = .ok (.putfield 44, 3) := by decide +kernel
theorem dX12_init_101 : decode cX12_init 101 = .ok (.aload_n 0, 1) := by decide +kernel
theorem dX12_init_102 : decode cX12_init 102 = .ok (.sipush 160, 3) := by decide +kernel
theorem dX12_init_105 : decode cX12_init 105 = .ok (.newarray .int, 2) := by decide +kernel
theorem dX12_init_107 : decode cX12_init 107 = .ok (.putfield 47, 3) := by decide +kernel
theorem dX12_init_110 : decode cX12_init 110 = .ok (.aload_n 0, 1) := by decide +kernel
theorem dX12_init_111 : decode cX12_init 111 = .ok (.bipush 40, 2) := by decide +kernel
theorem dX12_init_113 : decode cX12_init 113 = .ok (.newarray .int, 2) := by decide +kernel
theorem dX12_init_115 : decode cX12_init 115 = .ok (.putfield 50, 3) := by decide +kernel
theorem dX12_init_118 : decode cX12_init 118 = .ok (.aload_n 0, 1) := by decide +kernel
theorem dX12_init_119 : decode cX12_init 119 = .ok (.getfield 9, 3) := by decide +kernel
theorem dX12_init_122 : decode cX12_init 122 = .ok (.iconst 2, 1) := by decide +kernel
theorem dX12_init_123 : decode cX12_init 123 = .ok (.iconst 1, 1) := by decide +kernel
theorem dX12_init_124 : decode cX12_init 124 = .ok (.iastore, 1) := by decide +kernel
theorem dX12_init_125 : decode cX12_init 125 = .ok (.iconst 0, 1) := by decide +kernel
theorem dX12_init_126 : decode cX12_init 126 = .ok (.istore_n 1, 1) := by decide +kernel
theorem dX12_init_127 : decode cX12_init 127 = .ok (.iload_n 1, 1) := by decide +kernel
theorem dX12_init_128 : decode cX12_init 128 = .ok (.bipush 9, 2) := by decide +kernel
theorem dX12_init_130 : decode cX12_init 130 = .ok (.if_icmp .ge 39, 3) := by decide +kernel
theorem dX12_init_133 : decode cX12_init 133 = .ok (.aload_n 0, 1) := by decide +kernel
theorem dX12_init_134 : decode cX12_init 134 = .ok (.getfield 9, 3) := by decide +kernel
theorem dX12_init_137 : decode cX12_init 137 = .ok (.bipush 6, 2) := by decide +kernel
theorem dX12_init_139 : decode cX12_init 139 = .ok (.iconst 3, 1) := by decide +kernel
theorem dX12_init_140 : decode cX12_init 140 = .ok (.iload_n 1, 1) := by decide +kernel
theorem dX12_init_141 : decode cX12_init 141 = .ok (.imul, 1) := by decide +kernel
theorem dX12_init_142 : decode cX12_init 142 = .ok (.iadd, 1) := by decide +kernel
theorem dX12_init_143 : decode cX12_init 143 = .ok (.iconst 0, 1) := by decide +kernel
theorem dX12_init_144 : decode cX12_init 144 = .ok (.iadd, 1) := by decide +kernel
theorem dX12_init_145 : decode cX12_init 145 = .ok (.bipush 8, 2) := by decide +kernel
theorem dX12_init_147 : decode cX12_init 147 = .ok (.iastore, 1) := by decide +kernel
theorem dX12_init_148 : decode cX12_init 148 = .ok (.aload_n 0, 1) := by decide +kernel
theorem dX12_init_149 : decode cX12_init 149 = .ok (.getfield 9, 3) := by decide +kernel
theorem dX12_init_152 : decode cX12_init 152 = .ok (.bipush 6, 2) := by decide +kernel
theorem dX12_init_154 : decode cX12_init 154 = .ok (.iconst 3, 1) := by decide +kernel
theorem dX12_init_155 : decode cX12_init 155 = .ok (.iload_n 1, 1) := by decide +kernel
theorem dX12_init_156 : decode cX12_init 156 = .ok (.imul, 1) := by decide +kernel
theorem dX12_init_157 : decode cX12_init 157 = .ok (.iadd, 1) := by decide +kernel
theorem dX12_init_158 : decode cX12_init 158 = .ok (.iconst 2, 1) := by decide +kernel
theorem dX12_init_159 : decode cX12_init 159 = .ok (.iadd, 1) := by decide +kernel
theorem dX12_init_160 : decode cX12_init 160 = .ok (.bipush 10, 2) := by decide +kernel
theorem dX12_init_162 : decode cX12_init 162 = .ok (.iastore, 1) := by decide +kernel
theorem dX12_init_163 : decode cX12_init 163 = .ok (.iinc 1 1, 3) := by decide +kernel
theorem dX12_init_166 : decode cX12_init 166 = .ok (.goto (-39), 3) := by decide +kernel
theorem dX12_init_169 : decode cX12_init 169 = .ok (.iconst 0, 1) := by decide +kernel
theorem dX12_init_170 : decode cX12_init 170 = .ok (.istore_n 1, 1) := by decide +kernel
theorem dX12_init_171 : decode cX12_init 171 = .ok (.iload_n 1, 1) := by decide +kernel
theorem dX12_init_172 : decode cX12_init 172 = .ok (.iconst 4, 1) := by decide +kernel
theorem dX12_init_173 : decode cX12_init 173 = .ok (.if_icmp .ge 42, 3) := by decide +kernel
theorem dX12_init_176 : decode cX12_init 176 = .ok (.aload_n 0, 1) := by decide +kernel
theorem dX12_init_177 : decode cX12_init 177 = .ok (.getfield 9, 3) := by decide +kernel
theorem dX12_init_180 : decode cX12_init 180 = .ok (.bipush 33, 2) := by decide +kernel
theorem dX12_init_182 : decode cX12_init 182 = .ok (.iconst 2, 1) := by decide +kernel
theorem dX12_init_183 : decode cX12_init 183 = .ok (.iload_n 1, 1) := by decide +kernel
theorem dX12_init_184 : decode cX12_init 184 = .ok (.imul, 1) := by decide +kernel
theorem dX12_init_185 : decode cX12_init 185 = .ok (.iadd, 1) := by decide +kernel
theorem dX12_init_186 : decode cX12_init 186 = .ok (.iload_n 1, 1) := by decide +kernel
theorem dX12_init_187 : decode cX12_init 187 = .ok (.iconst 1, 1) := by decide +kernel
theorem dX12_init_188 : decode cX12_init 188 = .ok (.iadd, 1) := by decide +kernel
theorem dX12_init_189 : decode cX12_init 189 = .ok (.iastore, 1) := by decide +kernel
theorem dX12_init_190 : decode cX12_init 190 = .ok (.aload_n 0, 1) := by decide +kernel
theorem dX12_init_191 : decode cX12_init 191 = .ok (.getfield 9, 3) := by decide +kernel
theorem dX12_init_194 : decode cX12_init 194 = .ok (.bipush 33, 2) := by decide +kernel
theorem dX12_init_196 : decode cX12_init 196 = .ok (.iconst 2, 1) := by decide +kernel
theorem dX12_init_197 : decode cX12_init 197 = .ok (.iload_n 1, 1) := by decide +kernel
theorem dX12_init_198 : decode cX12_init 198 = .ok (.imul, 1) := by decide +kernel
theorem dX12_init_199 : decode cX12_init 199 = .ok (.iadd, 1) := by decide +kernel
theorem dX12_init_200 : decode cX12_init 200 = .ok (.iconst 1, 1) := by decide +kernel
theorem dX12_init_201 : decode cX12_init 201 = .ok (.iadd, 1) := by decide +kernel
theorem dX12_init_202 : decode cX12_init 202 = .ok (.bipush 9, 2) := by decide +kernel
theorem dX12_init_204 : decode cX12_init 204 = .ok (.iconst 2, 1) := by decide +kernel
theorem dX12_init_205 : decode cX12_init 205 = .ok (.iload_n 1, 1) := by decide +kernel
theorem dX12_init_206 : decode cX12_init 206 = .ok (.imul, 1) := by decide +kernel
theorem dX12_init_207 : decode cX12_init 207 = .ok (.isub, 1) := by decide +kernel
theorem dX12_init_208 : decode cX12_init 208 = .ok (.iastore, 1) := by decide +kernel
theorem dX12_init_209 : decode cX12_init 209 = .ok (.iinc 1 1, 3) := by decide +kernel
theorem dX12_init_212 : decode cX12_init 212 = .ok (.goto (-41), 3) := by decide +kernel
theorem dX12_init_215 : decode cX12_init 215 = .ok (.return_, 1) := by decide +kernel
theorem dX12_error_0 : decode cX12_error 0 = .ok (.aload_n 0, 1) := by decide +kernel
theorem dX12_error_1 : decode cX12_error 1 = .ok (.getfield 19, 3) := by decide +kernel
theorem dX12_error_4 : decode cX12_error 4 = .ok (.iload_n 1, 1) := by decide +kernel
theorem dX12_error_5 : decode cX12_error 5 = .ok (.dup2, 1) := by decide +kernel
theorem dX12_error_6 : decode cX12_error 6 = .ok (.iaload, 1) := by decide +kernel
theorem dX12_error_7 : decode cX12_error 7 = .ok (.iconst 1, 1) := by decide +kernel
theorem dX12_error_8 : decode cX12_error 8 = .ok (.iadd, 1) := by decide +kernel
theorem dX12_error_9 : decode cX12_error 9 = .ok (.iastore, 1) := by decide +kernel
theorem dX12_error_10 : decode cX12_error 10 = .ok (.ldc 53, 2) := by decide +kernel
theorem dX12_error_12 : decode cX12_error 12 = .ok (.iload_n 1, 1) := by decide +kernel
theorem dX12_error_13 : decode cX12_error 13 = .ok (.isub, 1) := by decide +kernel
theorem dX12_error_14 : decode cX12_error 14 = .ok (.ireturn, 1) := by decide +kernel
theorem dX12_in_0 : decode cX12_in 0 = .ok (.lload_n 0, 1) := by decide +kernel
theorem dX12_in_1 : decode cX12_in 1 = .ok (.lload_n 2, 1) := by decide +kernel
theorem dX12_in_2 : decode cX12_in 2 = .ok (.lcmp, 1) := by decide +kernel
theorem dX12_in_3 : decode cX12_in 3 = .ok (.ifCond .lt 14, 3) := by decide +kernel
theorem dX12_in_6 : decode cX12_in 6 = .ok (.lload_n 0, 1) := by decide +kernel
theorem dX12_in_7 : decode cX12_in 7 = .ok (.lload 4, 2) := by decide +kernel
theorem dX12_in_9 : decode cX12_in 9 = .ok (.lcmp, 1) := by decide +kernel
theorem dX12_in_10 : decode cX12_in 10 = .ok (.ifCond .gt 7, 3) := by decide +kernel
theorem dX12_in_13 : decode cX12_in 13 = .ok (.iconst 1, 1) := by decide +kernel
theorem dX12_in_14 : decode cX12_in 14 = .ok (.goto 4, 3) := by decide +kernel
theorem dX12_in_17 : decode cX12_in 17 = .ok (.iconst 0, 1) := by decide +kernel
theorem dX12_in_18 : decode cX12_in 18 = .ok (.ireturn, 1) := by decide +kernel
theorem dX12_held_0 : decode cX12_held 0 = .ok (.iload_n 1, 1) := by decide +kernel
theorem dX12_held_1 : decode cX12_held 1 = .ok (.iload_n 2, 1) := by decide +kernel
theorem dX12_held_2 : decode cX12_held 2 = .ok (.iload_n 0, 1) := by decide +kernel
theorem dX12_held_3 : decode cX12_held 3 = .ok (.invokestatic 54, 3) := by decide +kernel
theorem dX12_held_6 : decode cX12_held 6 = .ok (.invokestatic 60, 3) := by decide +kernel
theorem dX12_held_9 : decode cX12_held 9 = .ok (.ireturn, 1) := by decide +kernel
theorem dX12_become_0 : decode cX12_become 0 = .ok (.iconst 0, 1) := by decide +kernel
theorem dX12_become_1 : decode cX12_become 1 = .ok (.istore_n 2, 1) := by decide +kernel
theorem dX12_become_2 : decode cX12_become 2 = .ok (.iload_n 2, 1) := by decide +kernel
theorem dX12_become_3 : decode cX12_become 3 = .ok (.sipush 267, 3) := by decide +kernel
theorem dX12_become_6 : decode cX12_become 6 = .ok (.if_icmp .ge 15, 3) := by decide +kernel
theorem dX12_become_9 : decode cX12_become 9 = .ok (.aload_n 1, 1) := by decide +kernel
theorem dX12_become_10 : decode cX12_become 10 = .ok (.iload_n 2, 1) := by decide +kernel
theorem dX12_become_11 : decode cX12_become 11 = .ok (.aload_n 0, 1) := by decide +kernel
theorem dX12_become_12 : decode cX12_become 12 = .ok (.iload_n 2, 1) := by decide +kernel
theorem dX12_become_13 : decode cX12_become 13 = .ok (.iaload, 1) := by decide +kernel
theorem dX12_become_14 : decode cX12_become 14 = .ok (.iastore, 1) := by decide +kernel
theorem dX12_become_15 : decode cX12_become 15 = .ok (.iinc 2 1, 3) := by decide +kernel
theorem dX12_become_18 : decode cX12_become 18 = .ok (.goto (-16), 3) := by decide +kernel
theorem dX12_become_21 : decode cX12_become 21 = .ok (.return_, 1) := by decide +kernel
theorem dX12_lends_0 : decode cX12_lends 0 = .ok (.aload_n 0, 1) := by decide +kernel
theorem dX12_lends_1 : decode cX12_lends 1 = .ok (.getfield 9, 3) := by decide +kernel
theorem dX12_lends_4 : decode cX12_lends 4 = .ok (.aload_n 0, 1) := by decide +kernel
theorem dX12_lends_5 : decode cX12_lends 5 = .ok (.getfield 16, 3) := by decide +kernel
theorem dX12_lends_8 : decode cX12_lends 8 = .ok (.invokestatic 63, 3) := by decide +kernel
theorem dX12_lends_11 : decode cX12_lends 11 = .ok (.return_, 1) := by decide +kernel
theorem dX12_laysBack_0 : decode cX12_laysBack 0 = .ok (.aload_n 0, 1) := by decide +kernel
theorem dX12_laysBack_1 : decode cX12_laysBack 1 = .ok (.getfield 16, 3) := by decide +kernel
theorem dX12_laysBack_4 : decode cX12_laysBack 4 = .ok (.aload_n 0, 1) := by decide +kernel
theorem dX12_laysBack_5 : decode cX12_laysBack 5 = .ok (.getfield 9, 3) := by decide +kernel
theorem dX12_laysBack_8 : decode cX12_laysBack 8 = .ok (.invokestatic 63, 3) := by decide +kernel
theorem dX12_laysBack_11 : decode cX12_laysBack 11 = .ok (.return_, 1) := by decide +kernel
theorem dX12_isHill_0 : decode cX12_isHill 0 = .ok (.iload_n 0, 1) := by decide +kernel
theorem dX12_isHill_1 : decode cX12_isHill 1 = .ok (.i2l, 1) := by decide +kernel
theorem dX12_isHill_2 : decode cX12_isHill 2 = .ok (.lconst 0, 1) := by decide +kernel
theorem dX12_isHill_3 : decode cX12_isHill 3 = .ok (.ldc2_w 67, 3) := by decide +kernel
theorem dX12_isHill_6 : decode cX12_isHill 6 = .ok (.invokestatic 69, 3) := by decide +kernel
theorem dX12_isHill_9 : decode cX12_isHill 9 = .ok (.ireturn, 1) := by decide +kernel
theorem dX12_isCarrier_0 : decode cX12_isCarrier 0 = .ok (.iload_n 0, 1) := by decide +kernel
theorem dX12_isCarrier_1 : decode cX12_isCarrier 1 = .ok (.i2l, 1) := by decide +kernel
theorem dX12_isCarrier_2 : decode cX12_isCarrier 2 = .ok (.lconst 0, 1) := by decide +kernel
theorem dX12_isCarrier_3 : decode cX12_isCarrier 3 = .ok (.ldc2_w 73, 3) := by decide +kernel
theorem dX12_isCarrier_6 : decode cX12_isCarrier 6 = .ok (.invokestatic 69, 3) := by decide +kernel
theorem dX12_isCarrier_9 : decode cX12_isCarrier 9 = .ok (.ireturn, 1) := by decide +kernel
theorem dX12_isChurn_0 : decode cX12_isChurn 0 = .ok (.iload_n 1, 1) := by decide +kernel
theorem dX12_isChurn_1 : decode cX12_isChurn 1 = .ok (.i2l, 1) := by decide +kernel
theorem dX12_isChurn_2 : decode cX12_isChurn 2 = .ok (.lconst 0, 1) := by decide +kernel
theorem dX12_isChurn_3 : decode cX12_isChurn 3 = .ok (.aload_n 0, 1) := by decide +kernel
theorem dX12_isChurn_4 : decode cX12_isChurn 4 = .ok (.getfield 9, 3) := by decide +kernel
theorem dX12_isChurn_7 : decode cX12_isChurn 7 = .ok (.iconst 3, 1) := by decide +kernel
theorem dX12_isChurn_8 : decode cX12_isChurn 8 = .ok (.iaload, 1) := by decide +kernel
theorem dX12_isChurn_9 : decode cX12_isChurn 9 = .ok (.iconst 1, 1) := by decide +kernel
theorem dX12_isChurn_10 : decode cX12_isChurn 10 = .ok (.isub, 1) := by decide +kernel
theorem dX12_isChurn_11 : decode cX12_isChurn 11 = .ok (.i2l, 1) := by decide +kernel
theorem dX12_isChurn_12 : decode cX12_isChurn 12 = .ok (.invokestatic 69, 3) := by decide +kernel
theorem dX12_isChurn_15 : decode cX12_isChurn 15 = .ok (.ireturn, 1) := by decide +kernel
theorem dX12_its_0 : decode cX12_its 0 = .ok (.aload_n 0, 1) := by decide +kernel
theorem dX12_its_1 : decode cX12_its 1 = .ok (.getfield 9, 3) := by decide +kernel
theorem dX12_its_4 : decode cX12_its 4 = .ok (.bipush 41, 2) := by decide +kernel
theorem dX12_its_6 : decode cX12_its 6 = .ok (.bipush 9, 2) := by decide +kernel
theorem dX12_its_8 : decode cX12_its 8 = .ok (.iload_n 1, 1) := by decide +kernel
theorem dX12_its_9 : decode cX12_its 9 = .ok (.imul, 1) := by decide +kernel
theorem dX12_its_10 : decode cX12_its 10 = .ok (.iadd, 1) := by decide +kernel
theorem dX12_its_11 : decode cX12_its 11 = .ok (.iload_n 2, 1) := by decide +kernel
theorem dX12_its_12 : decode cX12_its 12 = .ok (.iadd, 1) := by decide +kernel
theorem dX12_its_13 : decode cX12_its 13 = .ok (.iaload, 1) := by decide +kernel
theorem dX12_its_14 : decode cX12_its 14 = .ok (.ireturn, 1) := by decide +kernel
theorem dX12_sets_0 : decode cX12_sets 0 = .ok (.aload_n 0, 1) := by decide +kernel
theorem dX12_sets_1 : decode cX12_sets 1 = .ok (.getfield 9, 3) := by decide +kernel
theorem dX12_sets_4 : decode cX12_sets 4 = .ok (.bipush 41, 2) := by decide +kernel
theorem dX12_sets_6 : decode cX12_sets 6 = .ok (.bipush 9, 2) := by decide +kernel
theorem dX12_sets_8 : decode cX12_sets 8 = .ok (.iload_n 1, 1) := by decide +kernel
theorem dX12_sets_9 : decode cX12_sets 9 = .ok (.imul, 1) := by decide +kernel
theorem dX12_sets_10 : decode cX12_sets 10 = .ok (.iadd, 1) := by decide +kernel
theorem dX12_sets_11 : decode cX12_sets 11 = .ok (.iload_n 2, 1) := by decide +kernel
theorem dX12_sets_12 : decode cX12_sets 12 = .ok (.iadd, 1) := by decide +kernel
theorem dX12_sets_13 : decode cX12_sets 13 = .ok (.iload_n 3, 1) := by decide +kernel
theorem dX12_sets_14 : decode cX12_sets 14 = .ok (.iastore, 1) := by decide +kernel
theorem dX12_sets_15 : decode cX12_sets 15 = .ok (.return_, 1) := by decide +kernel
theorem dX12_ofHillNow_0 : decode cX12_ofHillNow 0 = .ok (.aload_n 0, 1) := by decide +kernel
theorem dX12_ofHillNow_1 : decode cX12_ofHillNow 1 = .ok (.getfield 9, 3) := by decide +kernel
theorem dX12_ofHillNow_4 : decode cX12_ofHillNow 4 = .ok (.bipush 6, 2) := by decide +kernel
theorem dX12_ofHillNow_6 : decode cX12_ofHillNow 6 = .ok (.iconst 3, 1) := by decide +kernel
theorem dX12_ofHillNow_7 : decode cX12_ofHillNow 7 = .ok (.iload_n 1, 1) := by decide +kernel
theorem dX12_ofHillNow_8 : decode cX12_ofHillNow 8 = .ok (.imul, 1) := by decide +kernel
theorem dX12_ofHillNow_9 : decode cX12_ofHillNow 9 = .ok (.iadd, 1) := by decide +kernel
theorem dX12_ofHillNow_10 : decode cX12_ofHillNow 10 = .ok (.iload_n 2, 1) := by decide +kernel
theorem dX12_ofHillNow_11 : decode cX12_ofHillNow 11 = .ok (.iadd, 1) := by decide +kernel
theorem dX12_ofHillNow_12 : decode cX12_ofHillNow 12 = .ok (.iaload, 1) := by decide +kernel
theorem dX12_ofHillNow_13 : decode cX12_ofHillNow 13 = .ok (.ireturn, 1) := by decide +kernel
theorem dX12_pace_0 : decode cX12_pace 0 = .ok (.aload_n 0, 1) := by decide +kernel
theorem dX12_pace_1 : decode cX12_pace 1 = .ok (.getfield 9, 3) := by decide +kernel
theorem dX12_pace_4 : decode cX12_pace 4 = .ok (.bipush 33, 2) := by decide +kernel
theorem dX12_pace_6 : decode cX12_pace 6 = .ok (.iconst 2, 1) := by decide +kernel
theorem dX12_pace_7 : decode cX12_pace 7 = .ok (.iload_n 1, 1) := by decide +kernel
theorem dX12_pace_8 : decode cX12_pace 8 = .ok (.imul, 1) := by decide +kernel
theorem dX12_pace_9 : decode cX12_pace 9 = .ok (.iadd, 1) := by decide +kernel
theorem dX12_pace_10 : decode cX12_pace 10 = .ok (.iaload, 1) := by decide +kernel
theorem dX12_pace_11 : decode cX12_pace 11 = .ok (.ireturn, 1) := by decide +kernel
theorem dX12_shake_0 : decode cX12_shake 0 = .ok (.aload_n 0, 1) := by decide +kernel
theorem dX12_shake_1 : decode cX12_shake 1 = .ok (.getfield 9, 3) := by decide +kernel
theorem dX12_shake_4 : decode cX12_shake 4 = .ok (.bipush 33, 2) := by decide +kernel
theorem dX12_shake_6 : decode cX12_shake 6 = .ok (.iconst 2, 1) := by decide +kernel
theorem dX12_shake_7 : decode cX12_shake 7 = .ok (.iload_n 1, 1) := by decide +kernel
theorem dX12_shake_8 : decode cX12_shake 8 = .ok (.imul, 1) := by decide +kernel
theorem dX12_shake_9 : decode cX12_shake 9 = .ok (.iadd, 1) := by decide +kernel
theorem dX12_shake_10 : decode cX12_shake 10 = .ok (.iconst 1, 1) := by decide +kernel
theorem dX12_shake_11 : decode cX12_shake 11 = .ok (.iadd, 1) := by decide +kernel
theorem dX12_shake_12 : decode cX12_shake 12 = .ok (.iaload, 1) := by decide +kernel
theorem dX12_shake_13 : decode cX12_shake 13 = .ok (.ireturn, 1) := by decide +kernel
theorem dX12_aboveOf_0 : decode cX12_aboveOf 0 = .ok (.iload_n 0, 1) := by decide +kernel
theorem dX12_aboveOf_1 : decode cX12_aboveOf 1 = .ok (.iconst 4, 1) := by decide +kernel
theorem dX12_aboveOf_2 : decode cX12_aboveOf 2 = .ok (.if_icmp .ne 7, 3) := by decide +kernel
theorem dX12_aboveOf_5 : decode cX12_aboveOf 5 = .ok (.iconst 1, 1) := by decide +kernel
theorem dX12_aboveOf_6 : decode cX12_aboveOf 6 = .ok (.goto 23, 3) := by decide +kernel
theorem dX12_aboveOf_9 : decode cX12_aboveOf 9 = .ok (.iload_n 0, 1) := by decide +kernel
theorem dX12_aboveOf_10 : decode cX12_aboveOf 10 = .ok (.iconst 5, 1) := by decide +kernel
theorem dX12_aboveOf_11 : decode cX12_aboveOf 11 = .ok (.if_icmp .ne 7, 3) := by decide +kernel
theorem dX12_aboveOf_14 : decode cX12_aboveOf 14 = .ok (.iconst 2, 1) := by decide +kernel
theorem dX12_aboveOf_15 : decode cX12_aboveOf 15 = .ok (.goto 14, 3) := by decide +kernel
theorem dX12_aboveOf_18 : decode cX12_aboveOf 18 = .ok (.iload_n 0, 1) := by decide +kernel
theorem dX12_aboveOf_19 : decode cX12_aboveOf 19 = .ok (.bipush 6, 2) := by decide +kernel
theorem dX12_aboveOf_21 : decode cX12_aboveOf 21 = .ok (.if_icmp .ne 7, 3) := by decide +kernel
theorem dX12_aboveOf_24 : decode cX12_aboveOf 24 = .ok (.iconst 3, 1) := by decide +kernel
theorem dX12_aboveOf_25 : decode cX12_aboveOf 25 = .ok (.goto 4, 3) := by decide +kernel
theorem dX12_aboveOf_28 : decode cX12_aboveOf 28 = .ok (.iconst 0, 1) := by decide +kernel
theorem dX12_aboveOf_29 : decode cX12_aboveOf 29 = .ok (.ireturn, 1) := by decide +kernel
theorem dX12_isUnder_0 : decode cX12_isUnder 0 = .ok (.iload_n 1, 1) := by decide +kernel
theorem dX12_isUnder_1 : decode cX12_isUnder 1 = .ok (.ifCond .eq 16, 3) := by decide +kernel
theorem dX12_isUnder_4 : decode cX12_isUnder 4 = .ok (.iload_n 0, 1) := by decide +kernel
theorem dX12_isUnder_5 : decode cX12_isUnder 5 = .ok (.iload_n 1, 1) := by decide +kernel
theorem dX12_isUnder_6 : decode cX12_isUnder 6 = .ok (.if_icmp .eq 11, 3) := by decide +kernel
theorem dX12_isUnder_9 : decode cX12_isUnder 9 = .ok (.iload_n 0, 1) := by decide +kernel
theorem dX12_isUnder_10 : decode cX12_isUnder 10 = .ok (.invokestatic 75, 3) := by decide +kernel
theorem dX12_isUnder_13 : decode cX12_isUnder 13 = .ok (.iload_n 1, 1) := by decide +kernel
theorem dX12_isUnder_14 : decode cX12_isUnder 14 = .ok (.if_icmp .ne 7, 3) := by decide +kernel
theorem dX12_isUnder_17 : decode cX12_isUnder 17 = .ok (.iconst 1, 1) := by decide +kernel
theorem dX12_isUnder_18 : decode cX12_isUnder 18 = .ok (.goto 4, 3) := by decide +kernel
theorem dX12_isUnder_21 : decode cX12_isUnder 21 = .ok (.iconst 0, 1) := by decide +kernel
theorem dX12_isUnder_22 : decode cX12_isUnder 22 = .ok (.ireturn, 1) := by decide +kernel
theorem dX12_warms_0 : decode cX12_warms 0 = .ok (.iload_n 0, 1) := by decide +kernel
theorem dX12_warms_1 : decode cX12_warms 1 = .ok (.tableswitch 63 1 6 #[39, 45, 63, 39, 49, 59], 39) := by decide +kernel
theorem dX12_warms_40 : decode cX12_warms 40 = .ok (.iload_n 2, 1) := by decide +kernel
theorem dX12_warms_41 : decode cX12_warms 41 = .ok (.iload_n 1, 1) := by decide +kernel
theorem dX12_warms_42 : decode cX12_warms 42 = .ok (.iconst 3, 1) := by decide +kernel
theorem dX12_warms_43 : decode cX12_warms 43 = .ok (.idiv, 1) := by decide +kernel
theorem dX12_warms_44 : decode cX12_warms 44 = .ok (.iadd, 1) := by decide +kernel
theorem dX12_warms_45 : decode cX12_warms 45 = .ok (.ireturn, 1) := by decide +kernel
theorem dX12_warms_46 : decode cX12_warms 46 = .ok (.iload_n 2, 1) := by decide +kernel
theorem dX12_warms_47 : decode cX12_warms 47 = .ok (.iconst 2, 1) := by decide +kernel
theorem dX12_warms_48 : decode cX12_warms 48 = .ok (.idiv, 1) := by decide +kernel
theorem dX12_warms_49 : decode cX12_warms 49 = .ok (.ireturn, 1) := by decide +kernel
theorem dX12_warms_50 : decode cX12_warms 50 = .ok (.iconst 0, 1) := by decide +kernel
theorem dX12_warms_51 : decode cX12_warms 51 = .ok (.iload_n 2, 1) := by decide +kernel
theorem dX12_warms_52 : decode cX12_warms 52 = .ok (.iconst 2, 1) := by decide +kernel
theorem dX12_warms_53 : decode cX12_warms 53 = .ok (.idiv, 1) := by decide +kernel
theorem dX12_warms_54 : decode cX12_warms 54 = .ok (.iconst 1, 1) := by decide +kernel
theorem dX12_warms_55 : decode cX12_warms 55 = .ok (.isub, 1) := by decide +kernel
theorem dX12_warms_56 : decode cX12_warms 56 = .ok (.invokestatic 60, 3) := by decide +kernel
theorem dX12_warms_59 : decode cX12_warms 59 = .ok (.ireturn, 1) := by decide +kernel
theorem dX12_warms_60 : decode cX12_warms 60 = .ok (.iload_n 2, 1) := by decide +kernel
theorem dX12_warms_61 : decode cX12_warms 61 = .ok (.iconst 2, 1) := by decide +kernel
theorem dX12_warms_62 : decode cX12_warms 62 = .ok (.iadd, 1) := by decide +kernel
theorem dX12_warms_63 : decode cX12_warms 63 = .ok (.ireturn, 1) := by decide +kernel
theorem dX12_warms_64 : decode cX12_warms 64 = .ok (.iload_n 2, 1) := by decide +kernel
theorem dX12_warms_65 : decode cX12_warms 65 = .ok (.ireturn, 1) := by decide +kernel
theorem dX12_jolts_0 : decode cX12_jolts 0 = .ok (.iload_n 0, 1) := by decide +kernel
theorem dX12_jolts_1 : decode cX12_jolts 1 = .ok (.tableswitch 49 3 6 #[31, 35, 49, 43], 31) := by decide +kernel
theorem dX12_jolts_32 : decode cX12_jolts 32 = .ok (.iconst 2, 1) := by decide +kernel
theorem dX12_jolts_33 : decode cX12_jolts 33 = .ok (.iload_n 2, 1) := by decide +kernel
theorem dX12_jolts_34 : decode cX12_jolts 34 = .ok (.imul, 1) := by decide +kernel
theorem dX12_jolts_35 : decode cX12_jolts 35 = .ok (.ireturn, 1) := by decide +kernel
theorem dX12_jolts_36 : decode cX12_jolts 36 = .ok (.iconst 0, 1) := by decide +kernel
theorem dX12_jolts_37 : decode cX12_jolts 37 = .ok (.iload_n 2, 1) := by decide +kernel
theorem dX12_jolts_38 : decode cX12_jolts 38 = .ok (.iconst 2, 1) := by decide +kernel
theorem dX12_jolts_39 : decode cX12_jolts 39 = .ok (.isub, 1) := by decide +kernel
theorem dX12_jolts_40 : decode cX12_jolts 40 = .ok (.invokestatic 60, 3) := by decide +kernel
theorem dX12_jolts_43 : decode cX12_jolts 43 = .ok (.ireturn, 1) := by decide +kernel
theorem dX12_jolts_44 : decode cX12_jolts 44 = .ok (.iconst 2, 1) := by decide +kernel
theorem dX12_jolts_45 : decode cX12_jolts 45 = .ok (.iload_n 2, 1) := by decide +kernel
theorem dX12_jolts_46 : decode cX12_jolts 46 = .ok (.imul, 1) := by decide +kernel
theorem dX12_jolts_47 : decode cX12_jolts 47 = .ok (.iload_n 1, 1) := by decide +kernel
theorem dX12_jolts_48 : decode cX12_jolts 48 = .ok (.iadd, 1) := by decide +kernel
theorem dX12_jolts_49 : decode cX12_jolts 49 = .ok (.ireturn, 1) := by decide +kernel
theorem dX12_jolts_50 : decode cX12_jolts 50 = .ok (.iload_n 2, 1) := by decide +kernel
theorem dX12_jolts_51 : decode cX12_jolts 51 = .ok (.ireturn, 1) := by decide +kernel
theorem dX12_turns_0 : decode cX12_turns 0 = .ok (.iload_n 0, 1) := by decide +kernel
theorem dX12_turns_1 : decode cX12_turns 1 = .ok (.iconst 1, 1) := by decide +kernel
theorem dX12_turns_2 : decode cX12_turns 2 = .ok (.if_icmp .ne 8, 3) := by decide +kernel
theorem dX12_turns_5 : decode cX12_turns 5 = .ok (.bipush 80, 2) := by decide +kernel
theorem dX12_turns_7 : decode cX12_turns 7 = .ok (.goto 29, 3) := by decide +kernel
theorem dX12_turns_10 : decode cX12_turns 10 = .ok (.iload_n 0, 1) := by decide +kernel
theorem dX12_turns_11 : decode cX12_turns 11 = .ok (.iconst 4, 1) := by decide +kernel
theorem dX12_turns_12 : decode cX12_turns 12 = .ok (.if_icmp .ne 12, 3) := by decide +kernel
theorem dX12_turns_15 : decode cX12_turns 15 = .ok (.bipush 80, 2) := by decide +kernel
theorem dX12_turns_17 : decode cX12_turns 17 = .ok (.iconst 5, 1) := by decide +kernel
theorem dX12_turns_18 : decode cX12_turns 18 = .ok (.iload_n 1, 1) := by decide +kernel
theorem dX12_turns_19 : decode cX12_turns 19 = .ok (.imul, 1) := by decide +kernel
theorem dX12_turns_20 : decode cX12_turns 20 = .ok (.iadd, 1) := by decide +kernel
theorem dX12_turns_21 : decode cX12_turns 21 = .ok (.goto 15, 3) := by decide +kernel
theorem dX12_turns_24 : decode cX12_turns 24 = .ok (.iload_n 0, 1) := by decide +kernel
theorem dX12_turns_25 : decode cX12_turns 25 = .ok (.iconst 5, 1) := by decide +kernel
theorem dX12_turns_26 : decode cX12_turns 26 = .ok (.if_icmp .ne 8, 3) := by decide +kernel
theorem dX12_turns_29 : decode cX12_turns 29 = .ok (.bipush 120, 2) := by decide +kernel
theorem dX12_turns_31 : decode cX12_turns 31 = .ok (.goto 5, 3) := by decide +kernel
theorem dX12_turns_34 : decode cX12_turns 34 = .ok (.bipush 100, 2) := by decide +kernel
theorem dX12_turns_36 : decode cX12_turns 36 = .ok (.ireturn, 1) := by decide +kernel
theorem dX12_stateBy_0 : decode cX12_stateBy 0 = .ok (.iload_n 2, 1) := by decide +kernel
theorem dX12_stateBy_1 : decode cX12_stateBy 1 = .ok (.aload_n 0, 1) := by decide +kernel
theorem dX12_stateBy_2 : decode cX12_stateBy 2 = .ok (.iload_n 1, 1) := by decide +kernel
theorem dX12_stateBy_3 : decode cX12_stateBy 3 = .ok (.iconst 0, 1) := by decide +kernel
theorem dX12_stateBy_4 : decode cX12_stateBy 4 = .ok (.invokevirtual 79, 3) := by decide +kernel
theorem dX12_stateBy_7 : decode cX12_stateBy 7 = .ok (.aload_n 0, 1) := by decide +kernel
theorem dX12_stateBy_8 : decode cX12_stateBy 8 = .ok (.iload_n 1, 1) := by decide +kernel
theorem dX12_stateBy_9 : decode cX12_stateBy 9 = .ok (.iconst 1, 1) := by decide +kernel
theorem dX12_stateBy_10 : decode cX12_stateBy 10 = .ok (.invokevirtual 79, 3) := by decide +kernel
theorem dX12_stateBy_13 : decode cX12_stateBy 13 = .ok (.invokestatic 82, 3) := by decide +kernel
theorem dX12_stateBy_16 : decode cX12_stateBy 16 = .ok (.if_icmp .lt 7, 3) := by decide +kernel
theorem dX12_stateBy_19 : decode cX12_stateBy 19 = .ok (.iconst 2, 1) := by decide +kernel
theorem dX12_stateBy_20 : decode cX12_stateBy 20 = .ok (.goto 14, 3) := by decide +kernel
theorem dX12_stateBy_23 : decode cX12_stateBy 23 = .ok (.iload_n 3, 1) := by decide +kernel
theorem dX12_stateBy_24 : decode cX12_stateBy 24 = .ok (.bipush 60, 2) := by decide +kernel
theorem dX12_stateBy_26 : decode cX12_stateBy 26 = .ok (.if_icmp .lt 7, 3) := by decide +kernel
theorem dX12_stateBy_29 : decode cX12_stateBy 29 = .ok (.iconst 1, 1) := by decide +kernel
theorem dX12_stateBy_30 : decode cX12_stateBy 30 = .ok (.goto 4, 3) := by decide +kernel
theorem dX12_stateBy_33 : decode cX12_stateBy 33 = .ok (.iconst 0, 1) := by decide +kernel
theorem dX12_stateBy_34 : decode cX12_stateBy 34 = .ok (.ireturn, 1) := by decide +kernel
theorem dX12_stateOf_0 : decode cX12_stateOf 0 = .ok (.aload_n 0, 1) := by decide +kernel
theorem dX12_stateOf_1 : decode cX12_stateOf 1 = .ok (.iload_n 1, 1) := by decide +kernel
theorem dX12_stateOf_2 : decode cX12_stateOf 2 = .ok (.bipush 8, 2) := by decide +kernel
theorem dX12_stateOf_4 : decode cX12_stateOf 4 = .ok (.invokevirtual 79, 3) := by decide +kernel
theorem dX12_stateOf_7 : decode cX12_stateOf 7 = .ok (.iconst 1, 1) := by decide +kernel
theorem dX12_stateOf_8 : decode cX12_stateOf 8 = .ok (.if_icmp .ne 7, 3) := by decide +kernel
theorem dX12_stateOf_11 : decode cX12_stateOf 11 = .ok (.iconst 3, 1) := by decide +kernel
theorem dX12_stateOf_12 : decode cX12_stateOf 12 = .ok (.goto 21, 3) := by decide +kernel
theorem dX12_stateOf_15 : decode cX12_stateOf 15 = .ok (.aload_n 0, 1) := by decide +kernel
theorem dX12_stateOf_16 : decode cX12_stateOf 16 = .ok (.iload_n 1, 1) := by decide +kernel
theorem dX12_stateOf_17 : decode cX12_stateOf 17 = .ok (.aload_n 0, 1) := by decide +kernel
theorem dX12_stateOf_18 : decode cX12_stateOf 18 = .ok (.iload_n 1, 1) := by decide +kernel
theorem dX12_stateOf_19 : decode cX12_stateOf 19 = .ok (.iconst 5, 1) := by decide +kernel
theorem dX12_stateOf_20 : decode cX12_stateOf 20 = .ok (.invokevirtual 79, 3) := by decide +kernel
theorem dX12_stateOf_23 : decode cX12_stateOf 23 = .ok (.aload_n 0, 1) := by decide +kernel
theorem dX12_stateOf_24 : decode cX12_stateOf 24 = .ok (.iload_n 1, 1) := by decide +kernel
theorem dX12_stateOf_25 : decode cX12_stateOf 25 = .ok (.bipush 6, 2) := by decide +kernel
theorem dX12_stateOf_27 : decode cX12_stateOf 27 = .ok (.invokevirtual 79, 3) := by decide +kernel
theorem dX12_stateOf_30 : decode cX12_stateOf 30 = .ok (.invokevirtual 85, 3) := by decide +kernel
theorem dX12_stateOf_33 : decode cX12_stateOf 33 = .ok (.ireturn, 1) := by decide +kernel
theorem dX12_done_0 : decode cX12_done 0 = .ok (.iload_n 0, 1) := by decide +kernel
theorem dX12_done_1 : decode cX12_done 1 = .ok (.lookupswitch 168 #[(38, 97), (42, 152), (43, 144), (45, 148), (47, 156), (60, 111), (61, 122), (62, 133), (124, 83)], 83) := by decide +kernel
theorem dX12_done_84 : decode cX12_done 84 = .ok (.iload_n 1, 1) := by decide +kernel
theorem dX12_done_85 : decode cX12_done 85 = .ok (.ifCond .ne 7, 3) := by decide +kernel
theorem dX12_done_88 : decode cX12_done 88 = .ok (.iload_n 2, 1) := by decide +kernel
theorem dX12_done_89 : decode cX12_done 89 = .ok (.ifCond .eq 7, 3) := by decide +kernel
theorem dX12_done_92 : decode cX12_done 92 = .ok (.iconst 1, 1) := by decide +kernel
theorem dX12_done_93 : decode cX12_done 93 = .ok (.goto 4, 3) := by decide +kernel
theorem dX12_done_96 : decode cX12_done 96 = .ok (.iconst 0, 1) := by decide +kernel
theorem dX12_done_97 : decode cX12_done 97 = .ok (.ireturn, 1) := by decide +kernel
theorem dX12_done_98 : decode cX12_done 98 = .ok (.iload_n 1, 1) := by decide +kernel
theorem dX12_done_99 : decode cX12_done 99 = .ok (.ifCond .eq 11, 3) := by decide +kernel
theorem dX12_done_102 : decode cX12_done 102 = .ok (.iload_n 2, 1) := by decide +kernel
theorem dX12_done_103 : decode cX12_done 103 = .ok (.ifCond .eq 7, 3) := by decide +kernel
theorem dX12_done_106 : decode cX12_done 106 = .ok (.iconst 1, 1) := by decide +kernel
theorem dX12_done_107 : decode cX12_done 107 = .ok (.goto 4, 3) := by decide +kernel
theorem dX12_done_110 : decode cX12_done 110 = .ok (.iconst 0, 1) := by decide +kernel
theorem dX12_done_111 : decode cX12_done 111 = .ok (.ireturn, 1) := by decide +kernel
theorem dX12_done_112 : decode cX12_done 112 = .ok (.iload_n 1, 1) := by decide +kernel
theorem dX12_done_113 : decode cX12_done 113 = .ok (.iload_n 2, 1) := by decide +kernel
theorem dX12_done_114 : decode cX12_done 114 = .ok (.if_icmp .ge 7, 3) := by decide +kernel
theorem dX12_done_117 : decode cX12_done 117 = .ok (.iconst 1, 1) := by decide +kernel
theorem dX12_done_118 : decode cX12_done 118 = .ok (.goto 4, 3) := by decide +kernel
theorem dX12_done_121 : decode cX12_done 121 = .ok (.iconst 0, 1) := by decide +kernel
theorem dX12_done_122 : decode cX12_done 122 = .ok (.ireturn, 1) := by decide +kernel
theorem dX12_done_123 : decode cX12_done 123 = .ok (.iload_n 1, 1) := by decide +kernel
theorem dX12_done_124 : decode cX12_done 124 = .ok (.iload_n 2, 1) := by decide +kernel
theorem dX12_done_125 : decode cX12_done 125 = .ok (.if_icmp .ne 7, 3) := by decide +kernel
theorem dX12_done_128 : decode cX12_done 128 = .ok (.iconst 1, 1) := by decide +kernel
theorem dX12_done_129 : decode cX12_done 129 = .ok (.goto 4, 3) := by decide +kernel
theorem dX12_done_132 : decode cX12_done 132 = .ok (.iconst 0, 1) := by decide +kernel
theorem dX12_done_133 : decode cX12_done 133 = .ok (.ireturn, 1) := by decide +kernel
theorem dX12_done_134 : decode cX12_done 134 = .ok (.iload_n 1, 1) := by decide +kernel
theorem dX12_done_135 : decode cX12_done 135 = .ok (.iload_n 2, 1) := by decide +kernel
theorem dX12_done_136 : decode cX12_done 136 = .ok (.if_icmp .le 7, 3) := by decide +kernel
theorem dX12_done_139 : decode cX12_done 139 = .ok (.iconst 1, 1) := by decide +kernel
theorem dX12_done_140 : decode cX12_done 140 = .ok (.goto 4, 3) := by decide +kernel
theorem dX12_done_143 : decode cX12_done 143 = .ok (.iconst 0, 1) := by decide +kernel
theorem dX12_done_144 : decode cX12_done 144 = .ok (.ireturn, 1) := by decide +kernel
theorem dX12_done_145 : decode cX12_done 145 = .ok (.iload_n 1, 1) := by decide +kernel
theorem dX12_done_146 : decode cX12_done 146 = .ok (.iload_n 2, 1) := by decide +kernel
theorem dX12_done_147 : decode cX12_done 147 = .ok (.iadd, 1) := by decide +kernel
theorem dX12_done_148 : decode cX12_done 148 = .ok (.ireturn, 1) := by decide +kernel
theorem dX12_done_149 : decode cX12_done 149 = .ok (.iload_n 1, 1) := by decide +kernel
theorem dX12_done_150 : decode cX12_done 150 = .ok (.iload_n 2, 1) := by decide +kernel
theorem dX12_done_151 : decode cX12_done 151 = .ok (.isub, 1) := by decide +kernel
theorem dX12_done_152 : decode cX12_done 152 = .ok (.ireturn, 1) := by decide +kernel
theorem dX12_done_153 : decode cX12_done 153 = .ok (.iload_n 1, 1) := by decide +kernel
theorem dX12_done_154 : decode cX12_done 154 = .ok (.iload_n 2, 1) := by decide +kernel
theorem dX12_done_155 : decode cX12_done 155 = .ok (.imul, 1) := by decide +kernel
theorem dX12_done_156 : decode cX12_done 156 = .ok (.ireturn, 1) := by decide +kernel
theorem dX12_done_157 : decode cX12_done 157 = .ok (.iload_n 2, 1) := by decide +kernel
theorem dX12_done_158 : decode cX12_done 158 = .ok (.ifCond .ne 7, 3) := by decide +kernel
theorem dX12_done_161 : decode cX12_done 161 = .ok (.iconst 0, 1) := by decide +kernel
theorem dX12_done_162 : decode cX12_done 162 = .ok (.goto 6, 3) := by decide +kernel
theorem dX12_done_165 : decode cX12_done 165 = .ok (.iload_n 1, 1) := by decide +kernel
theorem dX12_done_166 : decode cX12_done 166 = .ok (.iload_n 2, 1) := by decide +kernel
theorem dX12_done_167 : decode cX12_done 167 = .ok (.idiv, 1) := by decide +kernel
theorem dX12_done_168 : decode cX12_done 168 = .ok (.ireturn, 1) := by decide +kernel
theorem dX12_done_169 : decode cX12_done 169 = .ok (.iload_n 2, 1) := by decide +kernel
theorem dX12_done_170 : decode cX12_done 170 = .ok (.ifCond .ne 7, 3) := by decide +kernel
theorem dX12_done_173 : decode cX12_done 173 = .ok (.iconst 0, 1) := by decide +kernel
theorem dX12_done_174 : decode cX12_done 174 = .ok (.goto 6, 3) := by decide +kernel
theorem dX12_done_177 : decode cX12_done 177 = .ok (.iload_n 1, 1) := by decide +kernel
theorem dX12_done_178 : decode cX12_done 178 = .ok (.iload_n 2, 1) := by decide +kernel
theorem dX12_done_179 : decode cX12_done 179 = .ok (.irem, 1) := by decide +kernel
theorem dX12_done_180 : decode cX12_done 180 = .ok (.ireturn, 1) := by decide +kernel
theorem dX12_worked_0 : decode cX12_worked 0 = .ok (.iconst 0, 1) := by decide +kernel
theorem dX12_worked_1 : decode cX12_worked 1 = .ok (.istore_n 2, 1) := by decide +kernel
theorem dX12_worked_2 : decode cX12_worked 2 = .ok (.iconst 0, 1) := by decide +kernel
theorem dX12_worked_3 : decode cX12_worked 3 = .ok (.istore_n 3, 1) := by decide +kernel
theorem dX12_worked_4 : decode cX12_worked 4 = .ok (.iload_n 3, 1) := by decide +kernel
theorem dX12_worked_5 : decode cX12_worked 5 = .ok (.aload_n 0, 1) := by decide +kernel
theorem dX12_worked_6 : decode cX12_worked 6 = .ok (.getfield 9, 3) := by decide +kernel
theorem dX12_worked_9 : decode cX12_worked 9 = .ok (.bipush 95, 2) := by decide +kernel
theorem dX12_worked_11 : decode cX12_worked 11 = .ok (.iload_n 1, 1) := by decide +kernel
theorem dX12_worked_12 : decode cX12_worked 12 = .ok (.iadd, 1) := by decide +kernel
theorem dX12_worked_13 : decode cX12_worked 13 = .ok (.iaload, 1) := by decide +kernel
theorem dX12_worked_14 : decode cX12_worked 14 = .ok (.if_icmp .ge 133, 3) := by decide +kernel
theorem dX12_worked_17 : decode cX12_worked 17 = .ok (.aload_n 0, 1) := by decide +kernel
theorem dX12_worked_18 : decode cX12_worked 18 = .ok (.getfield 9, 3) := by decide +kernel
theorem dX12_worked_21 : decode cX12_worked 21 = .ok (.bipush 97, 2) := by decide +kernel
theorem dX12_worked_23 : decode cX12_worked 23 = .ok (.bipush 50, 2) := by decide +kernel
theorem dX12_worked_25 : decode cX12_worked 25 = .ok (.iload_n 1, 1) := by decide +kernel
theorem dX12_worked_26 : decode cX12_worked 26 = .ok (.imul, 1) := by decide +kernel
theorem dX12_worked_27 : decode cX12_worked 27 = .ok (.iadd, 1) := by decide +kernel
theorem dX12_worked_28 : decode cX12_worked 28 = .ok (.iload_n 3, 1) := by decide +kernel
theorem dX12_worked_29 : decode cX12_worked 29 = .ok (.iadd, 1) := by decide +kernel
theorem dX12_worked_30 : decode cX12_worked 30 = .ok (.iaload, 1) := by decide +kernel
theorem dX12_worked_31 : decode cX12_worked 31 = .ok (.istore 4, 2) := by decide +kernel
theorem dX12_worked_33 : decode cX12_worked 33 = .ok (.iload 4, 2) := by decide +kernel
theorem dX12_worked_35 : decode cX12_worked 35 = .ok (.bipush (-100), 2) := by decide +kernel
theorem dX12_worked_37 : decode cX12_worked 37 = .ok (.if_icmp .le 34, 3) := by decide +kernel
theorem dX12_worked_40 : decode cX12_worked 40 = .ok (.aload_n 0, 1) := by decide +kernel
theorem dX12_worked_41 : decode cX12_worked 41 = .ok (.getfield 25, 3) := by decide +kernel
theorem dX12_worked_44 : decode cX12_worked 44 = .ok (.iload_n 2, 1) := by decide +kernel
theorem dX12_worked_45 : decode cX12_worked 45 = .ok (.iload 4, 2) := by decide +kernel
theorem dX12_worked_47 : decode cX12_worked 47 = .ok (.ifCond .lt 8, 3) := by decide +kernel
theorem dX12_worked_50 : decode cX12_worked 50 = .ok (.iload 4, 2) := by decide +kernel
theorem dX12_worked_52 : decode cX12_worked 52 = .ok (.goto 12, 3) := by decide +kernel
theorem dX12_worked_55 : decode cX12_worked 55 = .ok (.aload_n 0, 1) := by decide +kernel
theorem dX12_worked_56 : decode cX12_worked 56 = .ok (.getfield 22, 3) := by decide +kernel
theorem dX12_worked_59 : decode cX12_worked 59 = .ok (.iconst (-1), 1) := by decide +kernel
theorem dX12_worked_60 : decode cX12_worked 60 = .ok (.iload 4, 2) := by decide +kernel
theorem dX12_worked_62 : decode cX12_worked 62 = .ok (.isub, 1) := by decide +kernel
theorem dX12_worked_63 : decode cX12_worked 63 = .ok (.iaload, 1) := by decide +kernel
theorem dX12_worked_64 : decode cX12_worked 64 = .ok (.iastore, 1) := by decide +kernel
theorem dX12_worked_65 : decode cX12_worked 65 = .ok (.iinc 2 1, 3) := by decide +kernel
theorem dX12_worked_68 : decode cX12_worked 68 = .ok (.goto 73, 3) := by decide +kernel
theorem dX12_worked_71 : decode cX12_worked 71 = .ok (.bipush (-100), 2) := by decide +kernel
theorem dX12_worked_73 : decode cX12_worked 73 = .ok (.iload 4, 2) := by decide +kernel
theorem dX12_worked_75 : decode cX12_worked 75 = .ok (.isub, 1) := by decide +kernel
theorem dX12_worked_76 : decode cX12_worked 76 = .ok (.bipush 33, 2) := by decide +kernel
theorem dX12_worked_78 : decode cX12_worked 78 = .ok (.if_icmp .ne 30, 3) := by decide +kernel
theorem dX12_worked_81 : decode cX12_worked 81 = .ok (.aload_n 0, 1) := by decide +kernel
theorem dX12_worked_82 : decode cX12_worked 82 = .ok (.getfield 25, 3) := by decide +kernel
theorem dX12_worked_85 : decode cX12_worked 85 = .ok (.iload_n 2, 1) := by decide +kernel
theorem dX12_worked_86 : decode cX12_worked 86 = .ok (.iconst 1, 1) := by decide +kernel
theorem dX12_worked_87 : decode cX12_worked 87 = .ok (.isub, 1) := by decide +kernel
theorem dX12_worked_88 : decode cX12_worked 88 = .ok (.aload_n 0, 1) := by decide +kernel
theorem dX12_worked_89 : decode cX12_worked 89 = .ok (.getfield 25, 3) := by decide +kernel
theorem dX12_worked_92 : decode cX12_worked 92 = .ok (.iload_n 2, 1) := by decide +kernel
theorem dX12_worked_93 : decode cX12_worked 93 = .ok (.iconst 1, 1) := by decide +kernel
theorem dX12_worked_94 : decode cX12_worked 94 = .ok (.isub, 1) := by decide +kernel
theorem dX12_worked_95 : decode cX12_worked 95 = .ok (.iaload, 1) := by decide +kernel
theorem dX12_worked_96 : decode cX12_worked 96 = .ok (.ifCond .ne 7, 3) := by decide +kernel
theorem dX12_worked_99 : decode cX12_worked 99 = .ok (.iconst 1, 1) := by decide +kernel
theorem dX12_worked_100 : decode cX12_worked 100 = .ok (.goto 4, 3) := by decide +kernel
theorem dX12_worked_103 : decode cX12_worked 103 = .ok (.iconst 0, 1) := by decide +kernel
theorem dX12_worked_104 : decode cX12_worked 104 = .ok (.iastore, 1) := by decide +kernel
theorem dX12_worked_105 : decode cX12_worked 105 = .ok (.goto 36, 3) := by decide +kernel
theorem dX12_worked_108 : decode cX12_worked 108 = .ok (.iinc 2 (-1), 3) := by decide +kernel
theorem dX12_worked_111 : decode cX12_worked 111 = .ok (.aload_n 0, 1) := by decide +kernel
theorem dX12_worked_112 : decode cX12_worked 112 = .ok (.getfield 25, 3) := by decide +kernel
theorem dX12_worked_115 : decode cX12_worked 115 = .ok (.iload_n 2, 1) := by decide +kernel
theorem dX12_worked_116 : decode cX12_worked 116 = .ok (.iconst 1, 1) := by decide +kernel
theorem dX12_worked_117 : decode cX12_worked 117 = .ok (.isub, 1) := by decide +kernel
theorem dX12_worked_118 : decode cX12_worked 118 = .ok (.bipush (-100), 2) := by decide +kernel
theorem dX12_worked_120 : decode cX12_worked 120 = .ok (.iload 4, 2) := by decide +kernel
theorem dX12_worked_122 : decode cX12_worked 122 = .ok (.isub, 1) := by decide +kernel
theorem dX12_worked_123 : decode cX12_worked 123 = .ok (.aload_n 0, 1) := by decide +kernel
theorem dX12_worked_124 : decode cX12_worked 124 = .ok (.getfield 25, 3) := by decide +kernel
theorem dX12_worked_127 : decode cX12_worked 127 = .ok (.iload_n 2, 1) := by decide +kernel
theorem dX12_worked_128 : decode cX12_worked 128 = .ok (.iconst 1, 1) := by decide +kernel
theorem dX12_worked_129 : decode cX12_worked 129 = .ok (.isub, 1) := by decide +kernel
theorem dX12_worked_130 : decode cX12_worked 130 = .ok (.iaload, 1) := by decide +kernel
theorem dX12_worked_131 : decode cX12_worked 131 = .ok (.aload_n 0, 1) := by decide +kernel
theorem dX12_worked_132 : decode cX12_worked 132 = .ok (.getfield 25, 3) := by decide +kernel
theorem dX12_worked_135 : decode cX12_worked 135 = .ok (.iload_n 2, 1) := by decide +kernel
theorem dX12_worked_136 : decode cX12_worked 136 = .ok (.iaload, 1) := by decide +kernel
theorem dX12_worked_137 : decode cX12_worked 137 = .ok (.invokestatic 89, 3) := by decide +kernel
theorem dX12_worked_140 : decode cX12_worked 140 = .ok (.iastore, 1) := by decide +kernel
theorem dX12_worked_141 : decode cX12_worked 141 = .ok (.iinc 3 1, 3) := by decide +kernel
theorem dX12_worked_144 : decode cX12_worked 144 = .ok (.goto (-140), 3) := by decide +kernel
theorem dX12_worked_147 : decode cX12_worked 147 = .ok (.aload_n 0, 1) := by decide +kernel
theorem dX12_worked_148 : decode cX12_worked 148 = .ok (.getfield 25, 3) := by decide +kernel
theorem dX12_worked_151 : decode cX12_worked 151 = .ok (.iconst 0, 1) := by decide +kernel
theorem dX12_worked_152 : decode cX12_worked 152 = .ok (.iaload, 1) := by decide +kernel
theorem dX12_worked_153 : decode cX12_worked 153 = .ok (.ireturn, 1) := by decide +kernel
theorem dX12_lawBy_0 : decode cX12_lawBy 0 = .ok (.aload_n 0, 1) := by decide +kernel
theorem dX12_lawBy_1 : decode cX12_lawBy 1 = .ok (.getfield 22, 3) := by decide +kernel
theorem dX12_lawBy_4 : decode cX12_lawBy 4 = .ok (.iconst 0, 1) := by decide +kernel
theorem dX12_lawBy_5 : decode cX12_lawBy 5 = .ok (.iload_n 2, 1) := by decide +kernel
theorem dX12_lawBy_6 : decode cX12_lawBy 6 = .ok (.iastore, 1) := by decide +kernel
theorem dX12_lawBy_7 : decode cX12_lawBy 7 = .ok (.aload_n 0, 1) := by decide +kernel
theorem dX12_lawBy_8 : decode cX12_lawBy 8 = .ok (.getfield 22, 3) := by decide +kernel
theorem dX12_lawBy_11 : decode cX12_lawBy 11 = .ok (.iconst 1, 1) := by decide +kernel
theorem dX12_lawBy_12 : decode cX12_lawBy 12 = .ok (.iload_n 3, 1) := by decide +kernel
theorem dX12_lawBy_13 : decode cX12_lawBy 13 = .ok (.iastore, 1) := by decide +kernel
theorem dX12_lawBy_14 : decode cX12_lawBy 14 = .ok (.aload_n 0, 1) := by decide +kernel
theorem dX12_lawBy_15 : decode cX12_lawBy 15 = .ok (.getfield 22, 3) := by decide +kernel
theorem dX12_lawBy_18 : decode cX12_lawBy 18 = .ok (.iconst 2, 1) := by decide +kernel
theorem dX12_lawBy_19 : decode cX12_lawBy 19 = .ok (.iload 4, 2) := by decide +kernel
theorem dX12_lawBy_21 : decode cX12_lawBy 21 = .ok (.iastore, 1) := by decide +kernel
theorem dX12_lawBy_22 : decode cX12_lawBy 22 = .ok (.aload_n 0, 1) := by decide +kernel
theorem dX12_lawBy_23 : decode cX12_lawBy 23 = .ok (.getfield 9, 3) := by decide +kernel
theorem dX12_lawBy_26 : decode cX12_lawBy 26 = .ok (.bipush 95, 2) := by decide +kernel
theorem dX12_lawBy_28 : decode cX12_lawBy 28 = .ok (.iload_n 1, 1) := by decide +kernel
theorem dX12_lawBy_29 : decode cX12_lawBy 29 = .ok (.iadd, 1) := by decide +kernel
theorem dX12_lawBy_30 : decode cX12_lawBy 30 = .ok (.iaload, 1) := by decide +kernel
theorem dX12_lawBy_31 : decode cX12_lawBy 31 = .ok (.ifCond .le 7, 3) := by decide +kernel
theorem dX12_lawBy_34 : decode cX12_lawBy 34 = .ok (.iconst 1, 1) := by decide +kernel
theorem dX12_lawBy_35 : decode cX12_lawBy 35 = .ok (.goto 4, 3) := by decide +kernel
theorem dX12_lawBy_38 : decode cX12_lawBy 38 = .ok (.iconst 0, 1) := by decide +kernel
theorem dX12_lawBy_39 : decode cX12_lawBy 39 = .ok (.istore 5, 2) := by decide +kernel
theorem dX12_lawBy_41 : decode cX12_lawBy 41 = .ok (.iload_n 1, 1) := by decide +kernel
theorem dX12_lawBy_42 : decode cX12_lawBy 42 = .ok (.ifCond .ne 26, 3) := by decide +kernel
theorem dX12_lawBy_45 : decode cX12_lawBy 45 = .ok (.iload 5, 2) := by decide +kernel
theorem dX12_lawBy_47 : decode cX12_lawBy 47 = .ok (.ifCond .eq 11, 3) := by decide +kernel
theorem dX12_lawBy_50 : decode cX12_lawBy 50 = .ok (.aload_n 0, 1) := by decide +kernel
theorem dX12_lawBy_51 : decode cX12_lawBy 51 = .ok (.iconst 0, 1) := by decide +kernel
theorem dX12_lawBy_52 : decode cX12_lawBy 52 = .ok (.invokevirtual 92, 3) := by decide +kernel
theorem dX12_lawBy_55 : decode cX12_lawBy 55 = .ok (.goto 6, 3) := by decide +kernel
theorem dX12_lawBy_58 : decode cX12_lawBy 58 = .ok (.iload_n 2, 1) := by decide +kernel
theorem dX12_lawBy_59 : decode cX12_lawBy 59 = .ok (.iconst 4, 1) := by decide +kernel
theorem dX12_lawBy_60 : decode cX12_lawBy 60 = .ok (.idiv, 1) := by decide +kernel
theorem dX12_lawBy_61 : decode cX12_lawBy 61 = .ok (.iconst 0, 1) := by decide +kernel
theorem dX12_lawBy_62 : decode cX12_lawBy 62 = .ok (.bipush 40, 2) := by decide +kernel
theorem dX12_lawBy_64 : decode cX12_lawBy 64 = .ok (.invokestatic 95, 3) := by decide +kernel
theorem dX12_lawBy_67 : decode cX12_lawBy 67 = .ok (.ireturn, 1) := by decide +kernel
theorem dX12_lawBy_68 : decode cX12_lawBy 68 = .ok (.iload 5, 2) := by decide +kernel
theorem dX12_lawBy_70 : decode cX12_lawBy 70 = .ok (.ifCond .eq 11, 3) := by decide +kernel
theorem dX12_lawBy_73 : decode cX12_lawBy 73 = .ok (.aload_n 0, 1) := by decide +kernel
theorem dX12_lawBy_74 : decode cX12_lawBy 74 = .ok (.iconst 1, 1) := by decide +kernel
theorem dX12_lawBy_75 : decode cX12_lawBy 75 = .ok (.invokevirtual 92, 3) := by decide +kernel
theorem dX12_lawBy_78 : decode cX12_lawBy 78 = .ok (.goto 23, 3) := by decide +kernel
theorem dX12_lawBy_81 : decode cX12_lawBy 81 = .ok (.iload_n 2, 1) := by decide +kernel
theorem dX12_lawBy_82 : decode cX12_lawBy 82 = .ok (.ifCond .ne 8, 3) := by decide +kernel
theorem dX12_lawBy_85 : decode cX12_lawBy 85 = .ok (.bipush 50, 2) := by decide +kernel
theorem dX12_lawBy_87 : decode cX12_lawBy 87 = .ok (.goto 14, 3) := by decide +kernel
theorem dX12_lawBy_90 : decode cX12_lawBy 90 = .ok (.iload_n 2, 1) := by decide +kernel
theorem dX12_lawBy_91 : decode cX12_lawBy 91 = .ok (.iconst 1, 1) := by decide +kernel
theorem dX12_lawBy_92 : decode cX12_lawBy 92 = .ok (.if_icmp .ne 8, 3) := by decide +kernel
theorem dX12_lawBy_95 : decode cX12_lawBy 95 = .ok (.bipush 30, 2) := by decide +kernel
theorem dX12_lawBy_97 : decode cX12_lawBy 97 = .ok (.goto 4, 3) := by decide +kernel
theorem dX12_lawBy_100 : decode cX12_lawBy 100 = .ok (.iconst 0, 1) := by decide +kernel
theorem dX12_lawBy_101 : decode cX12_lawBy 101 = .ok (.iconst 0, 1) := by decide +kernel
theorem dX12_lawBy_102 : decode cX12_lawBy 102 = .ok (.sipush 999, 3) := by decide +kernel
theorem dX12_lawBy_105 : decode cX12_lawBy 105 = .ok (.invokestatic 95, 3) := by decide +kernel
theorem dX12_lawBy_108 : decode cX12_lawBy 108 = .ok (.ireturn, 1) := by decide +kernel
theorem dX12_warm_0 : decode cX12_warm 0 = .ok (.aload_n 0, 1) := by decide +kernel
theorem dX12_warm_1 : decode cX12_warm 1 = .ok (.iconst 0, 1) := by decide +kernel
theorem dX12_warm_2 : decode cX12_warm 2 = .ok (.aload_n 0, 1) := by decide +kernel
theorem dX12_warm_3 : decode cX12_warm 3 = .ok (.iload_n 1, 1) := by decide +kernel
theorem dX12_warm_4 : decode cX12_warm 4 = .ok (.iconst 0, 1) := by decide +kernel
theorem dX12_warm_5 : decode cX12_warm 5 = .ok (.invokevirtual 98, 3) := by decide +kernel
theorem dX12_warm_8 : decode cX12_warm 8 = .ok (.iload_n 2, 1) := by decide +kernel
theorem dX12_warm_9 : decode cX12_warm 9 = .ok (.bipush 96, 2) := by decide +kernel
theorem dX12_warm_11 : decode cX12_warm 11 = .ok (.irem, 1) := by decide +kernel
theorem dX12_warm_12 : decode cX12_warm 12 = .ok (.iconst 0, 1) := by decide +kernel
theorem dX12_warm_13 : decode cX12_warm 13 = .ok (.invokevirtual 101, 3) := by decide +kernel
theorem dX12_warm_16 : decode cX12_warm 16 = .ok (.ireturn, 1) := by decide +kernel
theorem dX12_worth_0 : decode cX12_worth 0 = .ok (.aload_n 0, 1) := by decide +kernel
theorem dX12_worth_1 : decode cX12_worth 1 = .ok (.iconst 1, 1) := by decide +kernel
theorem dX12_worth_2 : decode cX12_worth 2 = .ok (.aload_n 0, 1) := by decide +kernel
theorem dX12_worth_3 : decode cX12_worth 3 = .ok (.iload_n 1, 1) := by decide +kernel
theorem dX12_worth_4 : decode cX12_worth 4 = .ok (.iload_n 2, 1) := by decide +kernel
theorem dX12_worth_5 : decode cX12_worth 5 = .ok (.iload_n 3, 1) := by decide +kernel
theorem dX12_worth_6 : decode cX12_worth 6 = .ok (.invokevirtual 85, 3) := by decide +kernel
theorem dX12_worth_9 : decode cX12_worth 9 = .ok (.iload_n 2, 1) := by decide +kernel
theorem dX12_worth_10 : decode cX12_worth 10 = .ok (.aload_n 0, 1) := by decide +kernel
theorem dX12_worth_11 : decode cX12_worth 11 = .ok (.iload_n 1, 1) := by decide +kernel
theorem dX12_worth_12 : decode cX12_worth 12 = .ok (.iconst 1, 1) := by decide +kernel
theorem dX12_worth_13 : decode cX12_worth 13 = .ok (.invokevirtual 79, 3) := by decide +kernel
theorem dX12_worth_16 : decode cX12_worth 16 = .ok (.invokevirtual 101, 3) := by decide +kernel
theorem dX12_worth_19 : decode cX12_worth 19 = .ok (.ireturn, 1) := by decide +kernel
theorem dX12_inBrook_0 : decode cX12_inBrook 0 = .ok (.iconst 0, 1) := by decide +kernel
theorem dX12_inBrook_1 : decode cX12_inBrook 1 = .ok (.istore_n 2, 1) := by decide +kernel
theorem dX12_inBrook_2 : decode cX12_inBrook 2 = .ok (.iconst 0, 1) := by decide +kernel
theorem dX12_inBrook_3 : decode cX12_inBrook 3 = .ok (.istore_n 3, 1) := by decide +kernel
theorem dX12_inBrook_4 : decode cX12_inBrook 4 = .ok (.iload_n 3, 1) := by decide +kernel
theorem dX12_inBrook_5 : decode cX12_inBrook 5 = .ok (.aload_n 0, 1) := by decide +kernel
theorem dX12_inBrook_6 : decode cX12_inBrook 6 = .ok (.getfield 9, 3) := by decide +kernel
theorem dX12_inBrook_9 : decode cX12_inBrook 9 = .ok (.iconst 3, 1) := by decide +kernel
theorem dX12_inBrook_10 : decode cX12_inBrook 10 = .ok (.iaload, 1) := by decide +kernel
theorem dX12_inBrook_11 : decode cX12_inBrook 11 = .ok (.if_icmp .ge 37, 3) := by decide +kernel
theorem dX12_inBrook_14 : decode cX12_inBrook 14 = .ok (.iload_n 2, 1) := by decide +kernel
theorem dX12_inBrook_15 : decode cX12_inBrook 15 = .ok (.aload_n 0, 1) := by decide +kernel
theorem dX12_inBrook_16 : decode cX12_inBrook 16 = .ok (.iload_n 3, 1) := by decide +kernel
theorem dX12_inBrook_17 : decode cX12_inBrook 17 = .ok (.iconst 3, 1) := by decide +kernel
theorem dX12_inBrook_18 : decode cX12_inBrook 18 = .ok (.invokevirtual 79, 3) := by decide +kernel
theorem dX12_inBrook_21 : decode cX12_inBrook 21 = .ok (.iconst 1, 1) := by decide +kernel
theorem dX12_inBrook_22 : decode cX12_inBrook 22 = .ok (.if_icmp .ne 17, 3) := by decide +kernel
theorem dX12_inBrook_25 : decode cX12_inBrook 25 = .ok (.aload_n 0, 1) := by decide +kernel
theorem dX12_inBrook_26 : decode cX12_inBrook 26 = .ok (.iload_n 3, 1) := by decide +kernel
theorem dX12_inBrook_27 : decode cX12_inBrook 27 = .ok (.iconst 2, 1) := by decide +kernel
theorem dX12_inBrook_28 : decode cX12_inBrook 28 = .ok (.invokevirtual 79, 3) := by decide +kernel
theorem dX12_inBrook_31 : decode cX12_inBrook 31 = .ok (.iload_n 1, 1) := by decide +kernel
theorem dX12_inBrook_32 : decode cX12_inBrook 32 = .ok (.if_icmp .ne 7, 3) := by decide +kernel
theorem dX12_inBrook_35 : decode cX12_inBrook 35 = .ok (.iconst 1, 1) := by decide +kernel
theorem dX12_inBrook_36 : decode cX12_inBrook 36 = .ok (.goto 4, 3) := by decide +kernel
theorem dX12_inBrook_39 : decode cX12_inBrook 39 = .ok (.iconst 0, 1) := by decide +kernel
theorem dX12_inBrook_40 : decode cX12_inBrook 40 = .ok (.iadd, 1) := by decide +kernel
theorem dX12_inBrook_41 : decode cX12_inBrook 41 = .ok (.istore_n 2, 1) := by decide +kernel
theorem dX12_inBrook_42 : decode cX12_inBrook 42 = .ok (.iinc 3 1, 3) := by decide +kernel
theorem dX12_inBrook_45 : decode cX12_inBrook 45 = .ok (.goto (-41), 3) := by decide +kernel
theorem dX12_inBrook_48 : decode cX12_inBrook 48 = .ok (.iload_n 2, 1) := by decide +kernel
theorem dX12_inBrook_49 : decode cX12_inBrook 49 = .ok (.ireturn, 1) := by decide +kernel
theorem dX12_mostOf_0 : decode cX12_mostOf 0 = .ok (.iload_n 0, 1) := by decide +kernel
theorem dX12_mostOf_1 : decode cX12_mostOf 1 = .ok (.ifCond .ne 8, 3) := by decide +kernel
theorem dX12_mostOf_4 : decode cX12_mostOf 4 = .ok (.bipush 40, 2) := by decide +kernel
theorem dX12_mostOf_6 : decode cX12_mostOf 6 = .ok (.goto 14, 3) := by decide +kernel
theorem dX12_mostOf_9 : decode cX12_mostOf 9 = .ok (.iload_n 0, 1) := by decide +kernel
theorem dX12_mostOf_10 : decode cX12_mostOf 10 = .ok (.iconst 1, 1) := by decide +kernel
theorem dX12_mostOf_11 : decode cX12_mostOf 11 = .ok (.if_icmp .ne 7, 3) := by decide +kernel
theorem dX12_mostOf_14 : decode cX12_mostOf 14 = .ok (.iconst 3, 1) := by decide +kernel
theorem dX12_mostOf_15 : decode cX12_mostOf 15 = .ok (.goto 5, 3) := by decide +kernel
theorem dX12_mostOf_18 : decode cX12_mostOf 18 = .ok (.bipush 99, 2) := by decide +kernel
theorem dX12_mostOf_20 : decode cX12_mostOf 20 = .ok (.ireturn, 1) := by decide +kernel
theorem dX12_hill_0 : decode cX12_hill 0 = .ok (.iload_n 1, 1) := by decide +kernel
theorem dX12_hill_1 : decode cX12_hill 1 = .ok (.invokestatic 105, 3) := by decide +kernel
theorem dX12_hill_4 : decode cX12_hill 4 = .ok (.ifCond .eq 29, 3) := by decide +kernel
theorem dX12_hill_7 : decode cX12_hill 7 = .ok (.iload_n 2, 1) := by decide +kernel
theorem dX12_hill_8 : decode cX12_hill 8 = .ok (.i2l, 1) := by decide +kernel
theorem dX12_hill_9 : decode cX12_hill 9 = .ok (.lconst 0, 1) := by decide +kernel
theorem dX12_hill_10 : decode cX12_hill 10 = .ok (.ldc2_w 109, 3) := by decide +kernel
theorem dX12_hill_13 : decode cX12_hill 13 = .ok (.invokestatic 69, 3) := by decide +kernel
theorem dX12_hill_16 : decode cX12_hill 16 = .ok (.ifCond .eq 17, 3) := by decide +kernel
theorem dX12_hill_19 : decode cX12_hill 19 = .ok (.iload_n 3, 1) := by decide +kernel
theorem dX12_hill_20 : decode cX12_hill 20 = .ok (.i2l, 1) := by decide +kernel
theorem dX12_hill_21 : decode cX12_hill 21 = .ok (.lconst 0, 1) := by decide +kernel
theorem dX12_hill_22 : decode cX12_hill 22 = .ok (.iload_n 2, 1) := by decide +kernel
theorem dX12_hill_23 : decode cX12_hill 23 = .ok (.invokestatic 111, 3) := by decide +kernel
theorem dX12_hill_26 : decode cX12_hill 26 = .ok (.i2l, 1) := by decide +kernel
theorem dX12_hill_27 : decode cX12_hill 27 = .ok (.invokestatic 69, 3) := by decide +kernel
theorem dX12_hill_30 : decode cX12_hill 30 = .ok (.ifCond .ne 9, 3) := by decide +kernel
theorem dX12_hill_33 : decode cX12_hill 33 = .ok (.aload_n 0, 1) := by decide +kernel
theorem dX12_hill_34 : decode cX12_hill 34 = .ok (.iconst 1, 1) := by decide +kernel
theorem dX12_hill_35 : decode cX12_hill 35 = .ok (.invokevirtual 114, 3) := by decide +kernel
theorem dX12_hill_38 : decode cX12_hill 38 = .ok (.ireturn, 1) := by decide +kernel
theorem dX12_hill_39 : decode cX12_hill 39 = .ok (.iload_n 2, 1) := by decide +kernel
theorem dX12_hill_40 : decode cX12_hill 40 = .ok (.iconst 1, 1) := by decide +kernel
theorem dX12_hill_41 : decode cX12_hill 41 = .ok (.if_icmp .ne 18, 3) := by decide +kernel
theorem dX12_hill_44 : decode cX12_hill 44 = .ok (.aload_n 0, 1) := by decide +kernel
theorem dX12_hill_45 : decode cX12_hill 45 = .ok (.iload_n 1, 1) := by decide +kernel
theorem dX12_hill_46 : decode cX12_hill 46 = .ok (.invokevirtual 117, 3) := by decide +kernel
theorem dX12_hill_49 : decode cX12_hill 49 = .ok (.iload_n 3, 1) := by decide +kernel
theorem dX12_hill_50 : decode cX12_hill 50 = .ok (.if_icmp .le 9, 3) := by decide +kernel
theorem dX12_hill_53 : decode cX12_hill 53 = .ok (.aload_n 0, 1) := by decide +kernel
theorem dX12_hill_54 : decode cX12_hill 54 = .ok (.iconst 3, 1) := by decide +kernel
theorem dX12_hill_55 : decode cX12_hill 55 = .ok (.invokevirtual 114, 3) := by decide +kernel
theorem dX12_hill_58 : decode cX12_hill 58 = .ok (.ireturn, 1) := by decide +kernel
theorem dX12_hill_59 : decode cX12_hill 59 = .ok (.aload_n 0, 1) := by decide +kernel
theorem dX12_hill_60 : decode cX12_hill 60 = .ok (.iload_n 1, 1) := by decide +kernel
theorem dX12_hill_61 : decode cX12_hill 61 = .ok (.iload_n 2, 1) := by decide +kernel
theorem dX12_hill_62 : decode cX12_hill 62 = .ok (.invokevirtual 98, 3) := by decide +kernel
theorem dX12_hill_65 : decode cX12_hill 65 = .ok (.istore 4, 2) := by decide +kernel
theorem dX12_hill_67 : decode cX12_hill 67 = .ok (.aload_n 0, 1) := by decide +kernel
theorem dX12_hill_68 : decode cX12_hill 68 = .ok (.getfield 9, 3) := by decide +kernel
theorem dX12_hill_71 : decode cX12_hill 71 = .ok (.bipush 6, 2) := by decide +kernel
theorem dX12_hill_73 : decode cX12_hill 73 = .ok (.iconst 3, 1) := by decide +kernel
theorem dX12_hill_74 : decode cX12_hill 74 = .ok (.iload_n 1, 1) := by decide +kernel
theorem dX12_hill_75 : decode cX12_hill 75 = .ok (.imul, 1) := by decide +kernel
theorem dX12_hill_76 : decode cX12_hill 76 = .ok (.iadd, 1) := by decide +kernel
theorem dX12_hill_77 : decode cX12_hill 77 = .ok (.iload_n 2, 1) := by decide +kernel
theorem dX12_hill_78 : decode cX12_hill 78 = .ok (.iadd, 1) := by decide +kernel
theorem dX12_hill_79 : decode cX12_hill 79 = .ok (.iload_n 3, 1) := by decide +kernel
theorem dX12_hill_80 : decode cX12_hill 80 = .ok (.iastore, 1) := by decide +kernel
theorem dX12_hill_81 : decode cX12_hill 81 = .ok (.iload 4, 2) := by decide +kernel
theorem dX12_hill_83 : decode cX12_hill 83 = .ok (.ireturn, 1) := by decide +kernel
theorem dX12_ofHill_0 : decode cX12_ofHill 0 = .ok (.iload_n 1, 1) := by decide +kernel
theorem dX12_ofHill_1 : decode cX12_ofHill 1 = .ok (.invokestatic 105, 3) := by decide +kernel
theorem dX12_ofHill_4 : decode cX12_ofHill 4 = .ok (.ifCond .eq 15, 3) := by decide +kernel
theorem dX12_ofHill_7 : decode cX12_ofHill 7 = .ok (.iload_n 2, 1) := by decide +kernel
theorem dX12_ofHill_8 : decode cX12_ofHill 8 = .ok (.i2l, 1) := by decide +kernel
theorem dX12_ofHill_9 : decode cX12_ofHill 9 = .ok (.lconst 0, 1) := by decide +kernel
theorem dX12_ofHill_10 : decode cX12_ofHill 10 = .ok (.ldc2_w 120, 3) := by decide +kernel
theorem dX12_ofHill_13 : decode cX12_ofHill 13 = .ok (.invokestatic 69, 3) := by decide +kernel
theorem dX12_ofHill_16 : decode cX12_ofHill 16 = .ok (.ifCond .ne 9, 3) := by decide +kernel
theorem dX12_ofHill_19 : decode cX12_ofHill 19 = .ok (.aload_n 0, 1) := by decide +kernel
theorem dX12_ofHill_20 : decode cX12_ofHill 20 = .ok (.iconst 1, 1) := by decide +kernel
theorem dX12_ofHill_21 : decode cX12_ofHill 21 = .ok (.invokevirtual 114, 3) := by decide +kernel
theorem dX12_ofHill_24 : decode cX12_ofHill 24 = .ok (.ireturn, 1) := by decide +kernel
theorem dX12_ofHill_25 : decode cX12_ofHill 25 = .ok (.iload_n 2, 1) := by decide +kernel
theorem dX12_ofHill_26 : decode cX12_ofHill 26 = .ok (.iconst 3, 1) := by decide +kernel
theorem dX12_ofHill_27 : decode cX12_ofHill 27 = .ok (.if_icmp .ge 12, 3) := by decide +kernel
theorem dX12_ofHill_30 : decode cX12_ofHill 30 = .ok (.aload_n 0, 1) := by decide +kernel
theorem dX12_ofHill_31 : decode cX12_ofHill 31 = .ok (.iload_n 1, 1) := by decide +kernel
theorem dX12_ofHill_32 : decode cX12_ofHill 32 = .ok (.iload_n 2, 1) := by decide +kernel
theorem dX12_ofHill_33 : decode cX12_ofHill 33 = .ok (.invokevirtual 98, 3) := by decide +kernel
theorem dX12_ofHill_36 : decode cX12_ofHill 36 = .ok (.goto 27, 3) := by decide +kernel
theorem dX12_ofHill_39 : decode cX12_ofHill 39 = .ok (.iload_n 2, 1) := by decide +kernel
theorem dX12_ofHill_40 : decode cX12_ofHill 40 = .ok (.iconst 3, 1) := by decide +kernel
theorem dX12_ofHill_41 : decode cX12_ofHill 41 = .ok (.if_icmp .ne 11, 3) := by decide +kernel
theorem dX12_ofHill_44 : decode cX12_ofHill 44 = .ok (.aload_n 0, 1) := by decide +kernel
theorem dX12_ofHill_45 : decode cX12_ofHill 45 = .ok (.iload_n 1, 1) := by decide +kernel
theorem dX12_ofHill_46 : decode cX12_ofHill 46 = .ok (.invokevirtual 117, 3) := by decide +kernel
theorem dX12_ofHill_49 : decode cX12_ofHill 49 = .ok (.goto 14, 3) := by decide +kernel
theorem dX12_ofHill_52 : decode cX12_ofHill 52 = .ok (.aload_n 0, 1) := by decide +kernel
theorem dX12_ofHill_53 : decode cX12_ofHill 53 = .ok (.iload_n 1, 1) := by decide +kernel
theorem dX12_ofHill_54 : decode cX12_ofHill 54 = .ok (.aload_n 0, 1) := by decide +kernel
theorem dX12_ofHill_55 : decode cX12_ofHill 55 = .ok (.getfield 9, 3) := by decide +kernel
theorem dX12_ofHill_58 : decode cX12_ofHill 58 = .ok (.iconst 0, 1) := by decide +kernel
theorem dX12_ofHill_59 : decode cX12_ofHill 59 = .ok (.iaload, 1) := by decide +kernel
theorem dX12_ofHill_60 : decode cX12_ofHill 60 = .ok (.invokevirtual 122, 3) := by decide +kernel
theorem dX12_ofHill_63 : decode cX12_ofHill 63 = .ok (.ireturn, 1) := by decide +kernel
theorem dX12_carrier_0 : decode cX12_carrier 0 = .ok (.iload_n 1, 1) := by decide +kernel
theorem dX12_carrier_1 : decode cX12_carrier 1 = .ok (.invokestatic 125, 3) := by decide +kernel
theorem dX12_carrier_4 : decode cX12_carrier 4 = .ok (.ifCond .eq 27, 3) := by decide +kernel
theorem dX12_carrier_7 : decode cX12_carrier 7 = .ok (.iload_n 2, 1) := by decide +kernel
theorem dX12_carrier_8 : decode cX12_carrier 8 = .ok (.i2l, 1) := by decide +kernel
theorem dX12_carrier_9 : decode cX12_carrier 9 = .ok (.lconst 1, 1) := by decide +kernel
theorem dX12_carrier_10 : decode cX12_carrier 10 = .ok (.ldc2_w 128, 3) := by decide +kernel
theorem dX12_carrier_13 : decode cX12_carrier 13 = .ok (.invokestatic 69, 3) := by decide +kernel
theorem dX12_carrier_16 : decode cX12_carrier 16 = .ok (.ifCond .eq 15, 3) := by decide +kernel
theorem dX12_carrier_19 : decode cX12_carrier 19 = .ok (.iload_n 3, 1) := by decide +kernel
theorem dX12_carrier_20 : decode cX12_carrier 20 = .ok (.i2l, 1) := by decide +kernel
theorem dX12_carrier_21 : decode cX12_carrier 21 = .ok (.lconst 0, 1) := by decide +kernel
theorem dX12_carrier_22 : decode cX12_carrier 22 = .ok (.ldc2_w 130, 3) := by decide +kernel
theorem dX12_carrier_25 : decode cX12_carrier 25 = .ok (.invokestatic 69, 3) := by decide +kernel
theorem dX12_carrier_28 : decode cX12_carrier 28 = .ok (.ifCond .ne 9, 3) := by decide +kernel
theorem dX12_carrier_31 : decode cX12_carrier 31 = .ok (.aload_n 0, 1) := by decide +kernel
theorem dX12_carrier_32 : decode cX12_carrier 32 = .ok (.iconst 1, 1) := by decide +kernel
theorem dX12_carrier_33 : decode cX12_carrier 33 = .ok (.invokevirtual 114, 3) := by decide +kernel
theorem dX12_carrier_36 : decode cX12_carrier 36 = .ok (.ireturn, 1) := by decide +kernel
theorem dX12_carrier_37 : decode cX12_carrier 37 = .ok (.aload_n 0, 1) := by decide +kernel
theorem dX12_carrier_38 : decode cX12_carrier 38 = .ok (.iload_n 1, 1) := by decide +kernel
theorem dX12_carrier_39 : decode cX12_carrier 39 = .ok (.invokevirtual 132, 3) := by decide +kernel
theorem dX12_carrier_42 : decode cX12_carrier 42 = .ok (.istore 4, 2) := by decide +kernel
theorem dX12_carrier_44 : decode cX12_carrier 44 = .ok (.aload_n 0, 1) := by decide +kernel
theorem dX12_carrier_45 : decode cX12_carrier 45 = .ok (.getfield 9, 3) := by decide +kernel
theorem dX12_carrier_48 : decode cX12_carrier 48 = .ok (.bipush 33, 2) := by decide +kernel
theorem dX12_carrier_50 : decode cX12_carrier 50 = .ok (.iconst 2, 1) := by decide +kernel
theorem dX12_carrier_51 : decode cX12_carrier 51 = .ok (.iload_n 1, 1) := by decide +kernel
theorem dX12_carrier_52 : decode cX12_carrier 52 = .ok (.imul, 1) := by decide +kernel
theorem dX12_carrier_53 : decode cX12_carrier 53 = .ok (.iadd, 1) := by decide +kernel
theorem dX12_carrier_54 : decode cX12_carrier 54 = .ok (.iload_n 2, 1) := by decide +kernel
theorem dX12_carrier_55 : decode cX12_carrier 55 = .ok (.iastore, 1) := by decide +kernel
theorem dX12_carrier_56 : decode cX12_carrier 56 = .ok (.aload_n 0, 1) := by decide +kernel
theorem dX12_carrier_57 : decode cX12_carrier 57 = .ok (.getfield 9, 3) := by decide +kernel
theorem dX12_carrier_60 : decode cX12_carrier 60 = .ok (.bipush 33, 2) := by decide +kernel
theorem dX12_carrier_62 : decode cX12_carrier 62 = .ok (.iconst 2, 1) := by decide +kernel
theorem dX12_carrier_63 : decode cX12_carrier 63 = .ok (.iload_n 1, 1) := by decide +kernel
theorem dX12_carrier_64 : decode cX12_carrier 64 = .ok (.imul, 1) := by decide +kernel
theorem dX12_carrier_65 : decode cX12_carrier 65 = .ok (.iadd, 1) := by decide +kernel
theorem dX12_carrier_66 : decode cX12_carrier 66 = .ok (.iconst 1, 1) := by decide +kernel
theorem dX12_carrier_67 : decode cX12_carrier 67 = .ok (.iadd, 1) := by decide +kernel
theorem dX12_carrier_68 : decode cX12_carrier 68 = .ok (.iload_n 3, 1) := by decide +kernel
theorem dX12_carrier_69 : decode cX12_carrier 69 = .ok (.iastore, 1) := by decide +kernel
theorem dX12_carrier_70 : decode cX12_carrier 70 = .ok (.bipush 10, 2) := by decide +kernel
theorem dX12_carrier_72 : decode cX12_carrier 72 = .ok (.iload 4, 2) := by decide +kernel
theorem dX12_carrier_74 : decode cX12_carrier 74 = .ok (.imul, 1) := by decide +kernel
theorem dX12_carrier_75 : decode cX12_carrier 75 = .ok (.ireturn, 1) := by decide +kernel
theorem dX12_isKind_0 : decode cX12_isKind 0 = .ok (.iload_n 0, 1) := by decide +kernel
theorem dX12_isKind_1 : decode cX12_isKind 1 = .ok (.i2l, 1) := by decide +kernel
theorem dX12_isKind_2 : decode cX12_isKind 2 = .ok (.lconst 0, 1) := by decide +kernel
theorem dX12_isKind_3 : decode cX12_isKind 3 = .ok (.ldc2_w 135, 3) := by decide +kernel
theorem dX12_isKind_6 : decode cX12_isKind 6 = .ok (.invokestatic 69, 3) := by decide +kernel
theorem dX12_isKind_9 : decode cX12_isKind 9 = .ok (.ireturn, 1) := by decide +kernel
theorem dX12_churn_0 : decode cX12_churn 0 = .ok (.iload_n 1, 1) := by decide +kernel
theorem dX12_churn_1 : decode cX12_churn 1 = .ok (.invokestatic 137, 3) := by decide +kernel
theorem dX12_churn_4 : decode cX12_churn 4 = .ok (.ifCond .ne 9, 3) := by decide +kernel
theorem dX12_churn_7 : decode cX12_churn 7 = .ok (.aload_n 0, 1) := by decide +kernel
theorem dX12_churn_8 : decode cX12_churn 8 = .ok (.iconst 1, 1) := by decide +kernel
theorem dX12_churn_9 : decode cX12_churn 9 = .ok (.invokevirtual 114, 3) := by decide +kernel
theorem dX12_churn_12 : decode cX12_churn 12 = .ok (.ireturn, 1) := by decide +kernel
theorem dX12_churn_13 : decode cX12_churn 13 = .ok (.aload_n 0, 1) := by decide +kernel
theorem dX12_churn_14 : decode cX12_churn 14 = .ok (.getfield 9, 3) := by decide +kernel
theorem dX12_churn_17 : decode cX12_churn 17 = .ok (.iconst 3, 1) := by decide +kernel
theorem dX12_churn_18 : decode cX12_churn 18 = .ok (.iaload, 1) := by decide +kernel
theorem dX12_churn_19 : decode cX12_churn 19 = .ok (.bipush 6, 2) := by decide +kernel
theorem dX12_churn_21 : decode cX12_churn 21 = .ok (.if_icmp .ne 9, 3) := by decide +kernel
theorem dX12_churn_24 : decode cX12_churn 24 = .ok (.aload_n 0, 1) := by decide +kernel
theorem dX12_churn_25 : decode cX12_churn 25 = .ok (.iconst 4, 1) := by decide +kernel
theorem dX12_churn_26 : decode cX12_churn 26 = .ok (.invokevirtual 114, 3) := by decide +kernel
theorem dX12_churn_29 : decode cX12_churn 29 = .ok (.ireturn, 1) := by decide +kernel
theorem dX12_churn_30 : decode cX12_churn 30 = .ok (.aload_n 0, 1) := by decide +kernel
theorem dX12_churn_31 : decode cX12_churn 31 = .ok (.getfield 9, 3) := by decide +kernel
theorem dX12_churn_34 : decode cX12_churn 34 = .ok (.iconst 3, 1) := by decide +kernel
theorem dX12_churn_35 : decode cX12_churn 35 = .ok (.iaload, 1) := by decide +kernel
theorem dX12_churn_36 : decode cX12_churn 36 = .ok (.istore_n 2, 1) := by decide +kernel
theorem dX12_churn_37 : decode cX12_churn 37 = .ok (.aload_n 0, 1) := by decide +kernel
theorem dX12_churn_38 : decode cX12_churn 38 = .ok (.getfield 9, 3) := by decide +kernel
theorem dX12_churn_41 : decode cX12_churn 41 = .ok (.iconst 3, 1) := by decide +kernel
theorem dX12_churn_42 : decode cX12_churn 42 = .ok (.dup2, 1) := by decide +kernel
theorem dX12_churn_43 : decode cX12_churn 43 = .ok (.iaload, 1) := by decide +kernel
theorem dX12_churn_44 : decode cX12_churn 44 = .ok (.iconst 1, 1) := by decide +kernel
theorem dX12_churn_45 : decode cX12_churn 45 = .ok (.iadd, 1) := by decide +kernel
theorem dX12_churn_46 : decode cX12_churn 46 = .ok (.iastore, 1) := by decide +kernel
theorem dX12_churn_47 : decode cX12_churn 47 = .ok (.aload_n 0, 1) := by decide +kernel
theorem dX12_churn_48 : decode cX12_churn 48 = .ok (.iload_n 2, 1) := by decide +kernel
theorem dX12_churn_49 : decode cX12_churn 49 = .ok (.iconst 0, 1) := by decide +kernel
theorem dX12_churn_50 : decode cX12_churn 50 = .ok (.iload_n 1, 1) := by decide +kernel
theorem dX12_churn_51 : decode cX12_churn 51 = .ok (.bipush 10, 2) := by decide +kernel
theorem dX12_churn_53 : decode cX12_churn 53 = .ok (.idiv, 1) := by decide +kernel
theorem dX12_churn_54 : decode cX12_churn 54 = .ok (.invokevirtual 140, 3) := by decide +kernel
theorem dX12_churn_57 : decode cX12_churn 57 = .ok (.aload_n 0, 1) := by decide +kernel
theorem dX12_churn_58 : decode cX12_churn 58 = .ok (.iload_n 2, 1) := by decide +kernel
theorem dX12_churn_59 : decode cX12_churn 59 = .ok (.iconst 1, 1) := by decide +kernel
theorem dX12_churn_60 : decode cX12_churn 60 = .ok (.iload_n 1, 1) := by decide +kernel
theorem dX12_churn_61 : decode cX12_churn 61 = .ok (.bipush 10, 2) := by decide +kernel
theorem dX12_churn_63 : decode cX12_churn 63 = .ok (.irem, 1) := by decide +kernel
theorem dX12_churn_64 : decode cX12_churn 64 = .ok (.invokevirtual 140, 3) := by decide +kernel
theorem dX12_churn_67 : decode cX12_churn 67 = .ok (.aload_n 0, 1) := by decide +kernel
theorem dX12_churn_68 : decode cX12_churn 68 = .ok (.iload_n 2, 1) := by decide +kernel
theorem dX12_churn_69 : decode cX12_churn 69 = .ok (.invokevirtual 144, 3) := by decide +kernel
theorem dX12_churn_72 : decode cX12_churn 72 = .ok (.iload_n 2, 1) := by decide +kernel
theorem dX12_churn_73 : decode cX12_churn 73 = .ok (.ireturn, 1) := by decide +kernel
theorem dX12_anew_0 : decode cX12_anew 0 = .ok (.iconst 2, 1) := by decide +kernel
theorem dX12_anew_1 : decode cX12_anew 1 = .ok (.istore_n 2, 1) := by decide +kernel
theorem dX12_anew_2 : decode cX12_anew 2 = .ok (.iload_n 2, 1) := by decide +kernel
theorem dX12_anew_3 : decode cX12_anew 3 = .ok (.bipush 8, 2) := by decide +kernel
theorem dX12_anew_5 : decode cX12_anew 5 = .ok (.if_icmp .gt 16, 3) := by decide +kernel
theorem dX12_anew_8 : decode cX12_anew 8 = .ok (.aload_n 0, 1) := by decide +kernel
theorem dX12_anew_9 : decode cX12_anew 9 = .ok (.iload_n 1, 1) := by decide +kernel
theorem dX12_anew_10 : decode cX12_anew 10 = .ok (.iload_n 2, 1) := by decide +kernel
theorem dX12_anew_11 : decode cX12_anew 11 = .ok (.iconst 0, 1) := by decide +kernel
theorem dX12_anew_12 : decode cX12_anew 12 = .ok (.invokevirtual 140, 3) := by decide +kernel
theorem dX12_anew_15 : decode cX12_anew 15 = .ok (.iinc 2 1, 3) := by decide +kernel
theorem dX12_anew_18 : decode cX12_anew 18 = .ok (.goto (-16), 3) := by decide +kernel
theorem dX12_anew_21 : decode cX12_anew 21 = .ok (.return_, 1) := by decide +kernel
theorem dX12_ofChurn_0 : decode cX12_ofChurn 0 = .ok (.aload_n 0, 1) := by decide +kernel
theorem dX12_ofChurn_1 : decode cX12_ofChurn 1 = .ok (.iload_n 1, 1) := by decide +kernel
theorem dX12_ofChurn_2 : decode cX12_ofChurn 2 = .ok (.invokevirtual 148, 3) := by decide +kernel
theorem dX12_ofChurn_5 : decode cX12_ofChurn 5 = .ok (.ifCond .eq 24, 3) := by decide +kernel
theorem dX12_ofChurn_8 : decode cX12_ofChurn 8 = .ok (.iload_n 2, 1) := by decide +kernel
theorem dX12_ofChurn_9 : decode cX12_ofChurn 9 = .ok (.i2l, 1) := by decide +kernel
theorem dX12_ofChurn_10 : decode cX12_ofChurn 10 = .ok (.lconst 0, 1) := by decide +kernel
theorem dX12_ofChurn_11 : decode cX12_ofChurn 11 = .ok (.ldc2_w 128, 3) := by decide +kernel
theorem dX12_ofChurn_14 : decode cX12_ofChurn 14 = .ok (.invokestatic 69, 3) := by decide +kernel
theorem dX12_ofChurn_17 : decode cX12_ofChurn 17 = .ok (.ifCond .eq 12, 3) := by decide +kernel
theorem dX12_ofChurn_20 : decode cX12_ofChurn 20 = .ok (.aload_n 0, 1) := by decide +kernel
theorem dX12_ofChurn_21 : decode cX12_ofChurn 21 = .ok (.iload_n 1, 1) := by decide +kernel
theorem dX12_ofChurn_22 : decode cX12_ofChurn 22 = .ok (.iload_n 2, 1) := by decide +kernel
theorem dX12_ofChurn_23 : decode cX12_ofChurn 23 = .ok (.invokevirtual 151, 3) := by decide +kernel
theorem dX12_ofChurn_26 : decode cX12_ofChurn 26 = .ok (.goto 8, 3) := by decide +kernel
theorem dX12_ofChurn_29 : decode cX12_ofChurn 29 = .ok (.aload_n 0, 1) := by decide +kernel
theorem dX12_ofChurn_30 : decode cX12_ofChurn 30 = .ok (.iconst 1, 1) := by decide +kernel
theorem dX12_ofChurn_31 : decode cX12_ofChurn 31 = .ok (.invokevirtual 114, 3) := by decide +kernel
theorem dX12_ofChurn_34 : decode cX12_ofChurn 34 = .ok (.ireturn, 1) := by decide +kernel
theorem dX12_told_0 : decode cX12_told 0 = .ok (.aload_n 0, 1) := by decide +kernel
theorem dX12_told_1 : decode cX12_told 1 = .ok (.iload_n 1, 1) := by decide +kernel
theorem dX12_told_2 : decode cX12_told 2 = .ok (.iconst 3, 1) := by decide +kernel
theorem dX12_told_3 : decode cX12_told 3 = .ok (.invokevirtual 79, 3) := by decide +kernel
theorem dX12_told_6 : decode cX12_told 6 = .ok (.iconst 2, 1) := by decide +kernel
theorem dX12_told_7 : decode cX12_told 7 = .ok (.if_icmp .ne 7, 3) := by decide +kernel
theorem dX12_told_10 : decode cX12_told 10 = .ok (.iconst 1, 1) := by decide +kernel
theorem dX12_told_11 : decode cX12_told 11 = .ok (.goto 4, 3) := by decide +kernel
theorem dX12_told_14 : decode cX12_told 14 = .ok (.iconst 0, 1) := by decide +kernel
theorem dX12_told_15 : decode cX12_told 15 = .ok (.istore_n 3, 1) := by decide +kernel
theorem dX12_told_16 : decode cX12_told 16 = .ok (.iload_n 2, 1) := by decide +kernel
theorem dX12_told_17 : decode cX12_told 17 = .ok (.tableswitch 92 4 9 #[39, 92, 92, 54, 60, 76], 39) := by decide +kernel
theorem dX12_told_56 : decode cX12_told 56 = .ok (.iload_n 3, 1) := by decide +kernel
theorem dX12_told_57 : decode cX12_told 57 = .ok (.ifCond .eq 12, 3) := by decide +kernel
theorem dX12_told_60 : decode cX12_told 60 = .ok (.aload_n 0, 1) := by decide +kernel
theorem dX12_told_61 : decode cX12_told 61 = .ok (.iload_n 1, 1) := by decide +kernel
theorem dX12_told_62 : decode cX12_told 62 = .ok (.iconst 4, 1) := by decide +kernel
theorem dX12_told_63 : decode cX12_told 63 = .ok (.invokevirtual 79, 3) := by decide +kernel
theorem dX12_told_66 : decode cX12_told 66 = .ok (.goto 4, 3) := by decide +kernel
theorem dX12_told_69 : decode cX12_told 69 = .ok (.iconst 0, 1) := by decide +kernel
theorem dX12_told_70 : decode cX12_told 70 = .ok (.ireturn, 1) := by decide +kernel
theorem dX12_told_71 : decode cX12_told 71 = .ok (.aload_n 0, 1) := by decide +kernel
theorem dX12_told_72 : decode cX12_told 72 = .ok (.iload_n 1, 1) := by decide +kernel
theorem dX12_told_73 : decode cX12_told 73 = .ok (.invokevirtual 154, 3) := by decide +kernel
theorem dX12_told_76 : decode cX12_told 76 = .ok (.ireturn, 1) := by decide +kernel
theorem dX12_told_77 : decode cX12_told 77 = .ok (.aload_n 0, 1) := by decide +kernel
theorem dX12_told_78 : decode cX12_told 78 = .ok (.iload_n 1, 1) := by decide +kernel
theorem dX12_told_79 : decode cX12_told 79 = .ok (.iconst 0, 1) := by decide +kernel
theorem dX12_told_80 : decode cX12_told 80 = .ok (.invokevirtual 79, 3) := by decide +kernel
theorem dX12_told_83 : decode cX12_told 83 = .ok (.aload_n 0, 1) := by decide +kernel
theorem dX12_told_84 : decode cX12_told 84 = .ok (.iload_n 1, 1) := by decide +kernel
theorem dX12_told_85 : decode cX12_told 85 = .ok (.iconst 1, 1) := by decide +kernel
theorem dX12_told_86 : decode cX12_told 86 = .ok (.invokevirtual 79, 3) := by decide +kernel
theorem dX12_told_89 : decode cX12_told 89 = .ok (.invokestatic 82, 3) := by decide +kernel
theorem dX12_told_92 : decode cX12_told 92 = .ok (.ireturn, 1) := by decide +kernel
theorem dX12_told_93 : decode cX12_told 93 = .ok (.iload_n 3, 1) := by decide +kernel
theorem dX12_told_94 : decode cX12_told 94 = .ok (.ifCond .eq 13, 3) := by decide +kernel
theorem dX12_told_97 : decode cX12_told 97 = .ok (.aload_n 0, 1) := by decide +kernel
theorem dX12_told_98 : decode cX12_told 98 = .ok (.iload_n 1, 1) := by decide +kernel
theorem dX12_told_99 : decode cX12_told 99 = .ok (.bipush 7, 2) := by decide +kernel
theorem dX12_told_101 : decode cX12_told 101 = .ok (.invokevirtual 79, 3) := by decide +kernel
theorem dX12_told_104 : decode cX12_told 104 = .ok (.goto 4, 3) := by decide +kernel
theorem dX12_told_107 : decode cX12_told 107 = .ok (.iconst (-1), 1) := by decide +kernel
theorem dX12_told_108 : decode cX12_told 108 = .ok (.ireturn, 1) := by decide +kernel
theorem dX12_told_109 : decode cX12_told 109 = .ok (.aload_n 0, 1) := by decide +kernel
theorem dX12_told_110 : decode cX12_told 110 = .ok (.iload_n 1, 1) := by decide +kernel
theorem dX12_told_111 : decode cX12_told 111 = .ok (.iload_n 2, 1) := by decide +kernel
theorem dX12_told_112 : decode cX12_told 112 = .ok (.invokevirtual 79, 3) := by decide +kernel
theorem dX12_told_115 : decode cX12_told 115 = .ok (.ireturn, 1) := by decide +kernel
theorem dX12_become__0 : decode cX12_become_ 0 = .ok (.aload_n 0, 1) := by decide +kernel
theorem dX12_become__1 : decode cX12_become_ 1 = .ok (.iload_n 1, 1) := by decide +kernel
theorem dX12_become__2 : decode cX12_become_ 2 = .ok (.invokevirtual 148, 3) := by decide +kernel
theorem dX12_become__5 : decode cX12_become_ 5 = .ok (.ifCond .eq 10, 3) := by decide +kernel
theorem dX12_become__8 : decode cX12_become_ 8 = .ok (.iload_n 2, 1) := by decide +kernel
theorem dX12_become__9 : decode cX12_become_ 9 = .ok (.invokestatic 137, 3) := by decide +kernel
theorem dX12_become__12 : decode cX12_become_ 12 = .ok (.ifCond .ne 9, 3) := by decide +kernel
theorem dX12_become__15 : decode cX12_become_ 15 = .ok (.aload_n 0, 1) := by decide +kernel
theorem dX12_become__16 : decode cX12_become_ 16 = .ok (.iconst 1, 1) := by decide +kernel
theorem dX12_become__17 : decode cX12_become_ 17 = .ok (.invokevirtual 114, 3) := by decide +kernel
theorem dX12_become__20 : decode cX12_become_ 20 = .ok (.ireturn, 1) := by decide +kernel
theorem dX12_become__21 : decode cX12_become_ 21 = .ok (.aload_n 0, 1) := by decide +kernel
theorem dX12_become__22 : decode cX12_become_ 22 = .ok (.iload_n 1, 1) := by decide +kernel
theorem dX12_become__23 : decode cX12_become_ 23 = .ok (.iconst 0, 1) := by decide +kernel
theorem dX12_become__24 : decode cX12_become_ 24 = .ok (.invokevirtual 79, 3) := by decide +kernel
theorem dX12_become__27 : decode cX12_become_ 27 = .ok (.istore_n 3, 1) := by decide +kernel
theorem dX12_become__28 : decode cX12_become_ 28 = .ok (.aload_n 0, 1) := by decide +kernel
theorem dX12_become__29 : decode cX12_become_ 29 = .ok (.iload_n 1, 1) := by decide +kernel
theorem dX12_become__30 : decode cX12_become_ 30 = .ok (.iconst 0, 1) := by decide +kernel
theorem dX12_become__31 : decode cX12_become_ 31 = .ok (.iload_n 2, 1) := by decide +kernel
theorem dX12_become__32 : decode cX12_become_ 32 = .ok (.bipush 10, 2) := by decide +kernel
theorem dX12_become__34 : decode cX12_become_ 34 = .ok (.idiv, 1) := by decide +kernel
theorem dX12_become__35 : decode cX12_become_ 35 = .ok (.invokevirtual 140, 3) := by decide +kernel
theorem dX12_become__38 : decode cX12_become_ 38 = .ok (.aload_n 0, 1) := by decide +kernel
theorem dX12_become__39 : decode cX12_become_ 39 = .ok (.iload_n 1, 1) := by decide +kernel
theorem dX12_become__40 : decode cX12_become_ 40 = .ok (.iconst 1, 1) := by decide +kernel
theorem dX12_become__41 : decode cX12_become_ 41 = .ok (.iload_n 2, 1) := by decide +kernel
theorem dX12_become__42 : decode cX12_become_ 42 = .ok (.bipush 10, 2) := by decide +kernel
theorem dX12_become__44 : decode cX12_become_ 44 = .ok (.irem, 1) := by decide +kernel
theorem dX12_become__45 : decode cX12_become_ 45 = .ok (.invokevirtual 140, 3) := by decide +kernel
theorem dX12_become__48 : decode cX12_become_ 48 = .ok (.iload_n 3, 1) := by decide +kernel
theorem dX12_become__49 : decode cX12_become_ 49 = .ok (.ireturn, 1) := by decide +kernel
theorem dX12_as_0 : decode cX12_as 0 = .ok (.aload_n 0, 1) := by decide +kernel
theorem dX12_as_1 : decode cX12_as 1 = .ok (.iload_n 1, 1) := by decide +kernel
theorem dX12_as_2 : decode cX12_as 2 = .ok (.invokevirtual 148, 3) := by decide +kernel
theorem dX12_as_5 : decode cX12_as 5 = .ok (.ifCond .eq 15, 3) := by decide +kernel
theorem dX12_as_8 : decode cX12_as 8 = .ok (.iload_n 2, 1) := by decide +kernel
theorem dX12_as_9 : decode cX12_as 9 = .ok (.i2l, 1) := by decide +kernel
theorem dX12_as_10 : decode cX12_as 10 = .ok (.lconst 0, 1) := by decide +kernel
theorem dX12_as_11 : decode cX12_as 11 = .ok (.ldc2_w 157, 3) := by decide +kernel
theorem dX12_as_14 : decode cX12_as 14 = .ok (.invokestatic 69, 3) := by decide +kernel
theorem dX12_as_17 : decode cX12_as 17 = .ok (.ifCond .ne 9, 3) := by decide +kernel
theorem dX12_as_20 : decode cX12_as 20 = .ok (.aload_n 0, 1) := by decide +kernel
theorem dX12_as_21 : decode cX12_as 21 = .ok (.iconst 1, 1) := by decide +kernel
theorem dX12_as_22 : decode cX12_as 22 = .ok (.invokevirtual 114, 3) := by decide +kernel
theorem dX12_as_25 : decode cX12_as 25 = .ok (.ireturn, 1) := by decide +kernel
theorem dX12_as_26 : decode cX12_as 26 = .ok (.aload_n 0, 1) := by decide +kernel
theorem dX12_as_27 : decode cX12_as 27 = .ok (.iload_n 1, 1) := by decide +kernel
theorem dX12_as_28 : decode cX12_as 28 = .ok (.iconst 0, 1) := by decide +kernel
theorem dX12_as_29 : decode cX12_as 29 = .ok (.invokevirtual 79, 3) := by decide +kernel
theorem dX12_as_32 : decode cX12_as 32 = .ok (.iload_n 2, 1) := by decide +kernel
theorem dX12_as_33 : decode cX12_as 33 = .ok (.invokestatic 159, 3) := by decide +kernel
theorem dX12_as_36 : decode cX12_as 36 = .ok (.ifCond .eq 12, 3) := by decide +kernel
theorem dX12_as_39 : decode cX12_as 39 = .ok (.aload_n 0, 1) := by decide +kernel
theorem dX12_as_40 : decode cX12_as 40 = .ok (.iload_n 1, 1) := by decide +kernel
theorem dX12_as_41 : decode cX12_as 41 = .ok (.iconst 1, 1) := by decide +kernel
theorem dX12_as_42 : decode cX12_as 42 = .ok (.invokevirtual 79, 3) := by decide +kernel
theorem dX12_as_45 : decode cX12_as 45 = .ok (.goto 8, 3) := by decide +kernel
theorem dX12_as_48 : decode cX12_as 48 = .ok (.aload_n 0, 1) := by decide +kernel
theorem dX12_as_49 : decode cX12_as 49 = .ok (.iconst 5, 1) := by decide +kernel
theorem dX12_as_50 : decode cX12_as 50 = .ok (.invokevirtual 114, 3) := by decide +kernel
theorem dX12_as_53 : decode cX12_as 53 = .ok (.ireturn, 1) := by decide +kernel
theorem dX12_stands_0 : decode cX12_stands 0 = .ok (.aload_n 0, 1) := by decide +kernel
theorem dX12_stands_1 : decode cX12_stands 1 = .ok (.iload_n 1, 1) := by decide +kernel
theorem dX12_stands_2 : decode cX12_stands 2 = .ok (.iconst 3, 1) := by decide +kernel
theorem dX12_stands_3 : decode cX12_stands 3 = .ok (.invokevirtual 79, 3) := by decide +kernel
theorem dX12_stands_6 : decode cX12_stands 6 = .ok (.iconst 2, 1) := by decide +kernel
theorem dX12_stands_7 : decode cX12_stands 7 = .ok (.if_icmp .ge 17, 3) := by decide +kernel
theorem dX12_stands_10 : decode cX12_stands 10 = .ok (.aload_n 0, 1) := by decide +kernel
theorem dX12_stands_11 : decode cX12_stands 11 = .ok (.iload_n 1, 1) := by decide +kernel
theorem dX12_stands_12 : decode cX12_stands 12 = .ok (.bipush 8, 2) := by decide +kernel
theorem dX12_stands_14 : decode cX12_stands 14 = .ok (.invokevirtual 79, 3) := by decide +kernel
theorem dX12_stands_17 : decode cX12_stands 17 = .ok (.ifCond .ne 7, 3) := by decide +kernel
theorem dX12_stands_20 : decode cX12_stands 20 = .ok (.iconst 1, 1) := by decide +kernel
theorem dX12_stands_21 : decode cX12_stands 21 = .ok (.goto 4, 3) := by decide +kernel
theorem dX12_stands_24 : decode cX12_stands 24 = .ok (.iconst 0, 1) := by decide +kernel
theorem dX12_stands_25 : decode cX12_stands 25 = .ok (.ireturn, 1) := by decide +kernel
theorem dX12_leaves_0 : decode cX12_leaves 0 = .ok (.aload_n 0, 1) := by decide +kernel
theorem dX12_leaves_1 : decode cX12_leaves 1 = .ok (.iload_n 1, 1) := by decide +kernel
theorem dX12_leaves_2 : decode cX12_leaves 2 = .ok (.iconst 3, 1) := by decide +kernel
theorem dX12_leaves_3 : decode cX12_leaves 3 = .ok (.iconst 2, 1) := by decide +kernel
theorem dX12_leaves_4 : decode cX12_leaves 4 = .ok (.invokevirtual 140, 3) := by decide +kernel
theorem dX12_leaves_7 : decode cX12_leaves 7 = .ok (.aload_n 0, 1) := by decide +kernel
theorem dX12_leaves_8 : decode cX12_leaves 8 = .ok (.iload_n 1, 1) := by decide +kernel
theorem dX12_leaves_9 : decode cX12_leaves 9 = .ok (.iconst 4, 1) := by decide +kernel
theorem dX12_leaves_10 : decode cX12_leaves 10 = .ok (.aload_n 0, 1) := by decide +kernel
theorem dX12_leaves_11 : decode cX12_leaves 11 = .ok (.iload_n 2, 1) := by decide +kernel
theorem dX12_leaves_12 : decode cX12_leaves 12 = .ok (.invokevirtual 132, 3) := by decide +kernel
theorem dX12_leaves_15 : decode cX12_leaves 15 = .ok (.invokevirtual 140, 3) := by decide +kernel
theorem dX12_leaves_18 : decode cX12_leaves 18 = .ok (.aload_n 0, 1) := by decide +kernel
theorem dX12_leaves_19 : decode cX12_leaves 19 = .ok (.iload_n 1, 1) := by decide +kernel
theorem dX12_leaves_20 : decode cX12_leaves 20 = .ok (.bipush 7, 2) := by decide +kernel
theorem dX12_leaves_22 : decode cX12_leaves 22 = .ok (.iload_n 2, 1) := by decide +kernel
theorem dX12_leaves_23 : decode cX12_leaves 23 = .ok (.invokevirtual 140, 3) := by decide +kernel
theorem dX12_leaves_26 : decode cX12_leaves 26 = .ok (.return_, 1) := by decide +kernel
theorem dX12_go_0 : decode cX12_go 0 = .ok (.aload_n 0, 1) := by decide +kernel
theorem dX12_go_1 : decode cX12_go 1 = .ok (.iload_n 1, 1) := by decide +kernel
theorem dX12_go_2 : decode cX12_go 2 = .ok (.invokevirtual 148, 3) := by decide +kernel
theorem dX12_go_5 : decode cX12_go 5 = .ok (.ifCond .eq 10, 3) := by decide +kernel
theorem dX12_go_8 : decode cX12_go 8 = .ok (.iload_n 2, 1) := by decide +kernel
theorem dX12_go_9 : decode cX12_go 9 = .ok (.invokestatic 125, 3) := by decide +kernel
theorem dX12_go_12 : decode cX12_go 12 = .ok (.ifCond .ne 9, 3) := by decide +kernel
theorem dX12_go_15 : decode cX12_go 15 = .ok (.aload_n 0, 1) := by decide +kernel
theorem dX12_go_16 : decode cX12_go 16 = .ok (.iconst 1, 1) := by decide +kernel
theorem dX12_go_17 : decode cX12_go 17 = .ok (.invokevirtual 114, 3) := by decide +kernel
theorem dX12_go_20 : decode cX12_go 20 = .ok (.ireturn, 1) := by decide +kernel
theorem dX12_go_21 : decode cX12_go 21 = .ok (.aload_n 0, 1) := by decide +kernel
theorem dX12_go_22 : decode cX12_go 22 = .ok (.iload_n 1, 1) := by decide +kernel
theorem dX12_go_23 : decode cX12_go 23 = .ok (.invokevirtual 163, 3) := by decide +kernel
theorem dX12_go_26 : decode cX12_go 26 = .ok (.ifCond .ne 9, 3) := by decide +kernel
theorem dX12_go_29 : decode cX12_go 29 = .ok (.aload_n 0, 1) := by decide +kernel
theorem dX12_go_30 : decode cX12_go 30 = .ok (.iconst 3, 1) := by decide +kernel
theorem dX12_go_31 : decode cX12_go 31 = .ok (.invokevirtual 114, 3) := by decide +kernel
theorem dX12_go_34 : decode cX12_go 34 = .ok (.ireturn, 1) := by decide +kernel
theorem dX12_go_35 : decode cX12_go 35 = .ok (.aload_n 0, 1) := by decide +kernel
theorem dX12_go_36 : decode cX12_go 36 = .ok (.iload_n 1, 1) := by decide +kernel
theorem dX12_go_37 : decode cX12_go 37 = .ok (.iload_n 2, 1) := by decide +kernel
theorem dX12_go_38 : decode cX12_go 38 = .ok (.invokevirtual 166, 3) := by decide +kernel
theorem dX12_go_41 : decode cX12_go 41 = .ok (.aload_n 0, 1) := by decide +kernel
theorem dX12_go_42 : decode cX12_go 42 = .ok (.iload_n 1, 1) := by decide +kernel
theorem dX12_go_43 : decode cX12_go 43 = .ok (.iconst 4, 1) := by decide +kernel
theorem dX12_go_44 : decode cX12_go 44 = .ok (.invokevirtual 79, 3) := by decide +kernel
theorem dX12_go_47 : decode cX12_go 47 = .ok (.ireturn, 1) := by decide +kernel
theorem dX12_brook_0 : decode cX12_brook 0 = .ok (.aload_n 0, 1) := by decide +kernel
theorem dX12_brook_1 : decode cX12_brook 1 = .ok (.iload_n 1, 1) := by decide +kernel
theorem dX12_brook_2 : decode cX12_brook 2 = .ok (.invokevirtual 148, 3) := by decide +kernel
theorem dX12_brook_5 : decode cX12_brook 5 = .ok (.ifCond .ne 9, 3) := by decide +kernel
theorem dX12_brook_8 : decode cX12_brook 8 = .ok (.aload_n 0, 1) := by decide +kernel
theorem dX12_brook_9 : decode cX12_brook 9 = .ok (.iconst 1, 1) := by decide +kernel
theorem dX12_brook_10 : decode cX12_brook 10 = .ok (.invokevirtual 114, 3) := by decide +kernel
theorem dX12_brook_13 : decode cX12_brook 13 = .ok (.ireturn, 1) := by decide +kernel
theorem dX12_brook_14 : decode cX12_brook 14 = .ok (.aload_n 0, 1) := by decide +kernel
theorem dX12_brook_15 : decode cX12_brook 15 = .ok (.iload_n 1, 1) := by decide +kernel
theorem dX12_brook_16 : decode cX12_brook 16 = .ok (.invokevirtual 163, 3) := by decide +kernel
theorem dX12_brook_19 : decode cX12_brook 19 = .ok (.ifCond .eq 13, 3) := by decide +kernel
theorem dX12_brook_22 : decode cX12_brook 22 = .ok (.aload_n 0, 1) := by decide +kernel
theorem dX12_brook_23 : decode cX12_brook 23 = .ok (.iload_n 1, 1) := by decide +kernel
theorem dX12_brook_24 : decode cX12_brook 24 = .ok (.iconst 3, 1) := by decide +kernel
theorem dX12_brook_25 : decode cX12_brook 25 = .ok (.invokevirtual 79, 3) := by decide +kernel
theorem dX12_brook_28 : decode cX12_brook 28 = .ok (.iconst 1, 1) := by decide +kernel
theorem dX12_brook_29 : decode cX12_brook 29 = .ok (.if_icmp .ne 9, 3) := by decide +kernel
theorem dX12_brook_32 : decode cX12_brook 32 = .ok (.aload_n 0, 1) := by decide +kernel
theorem dX12_brook_33 : decode cX12_brook 33 = .ok (.iconst 3, 1) := by decide +kernel
theorem dX12_brook_34 : decode cX12_brook 34 = .ok (.invokevirtual 114, 3) := by decide +kernel
theorem dX12_brook_37 : decode cX12_brook 37 = .ok (.ireturn, 1) := by decide +kernel
theorem dX12_brook_38 : decode cX12_brook 38 = .ok (.aload_n 0, 1) := by decide +kernel
theorem dX12_brook_39 : decode cX12_brook 39 = .ok (.iload_n 1, 1) := by decide +kernel
theorem dX12_brook_40 : decode cX12_brook 40 = .ok (.iconst 2, 1) := by decide +kernel
theorem dX12_brook_41 : decode cX12_brook 41 = .ok (.invokevirtual 79, 3) := by decide +kernel
theorem dX12_brook_44 : decode cX12_brook 44 = .ok (.istore_n 2, 1) := by decide +kernel
theorem dX12_brook_45 : decode cX12_brook 45 = .ok (.aload_n 0, 1) := by decide +kernel
theorem dX12_brook_46 : decode cX12_brook 46 = .ok (.iload_n 2, 1) := by decide +kernel
theorem dX12_brook_47 : decode cX12_brook 47 = .ok (.invokevirtual 117, 3) := by decide +kernel
theorem dX12_brook_50 : decode cX12_brook 50 = .ok (.aload_n 0, 1) := by decide +kernel
theorem dX12_brook_51 : decode cX12_brook 51 = .ok (.iload_n 2, 1) := by decide +kernel
theorem dX12_brook_52 : decode cX12_brook 52 = .ok (.iconst 1, 1) := by decide +kernel
theorem dX12_brook_53 : decode cX12_brook 53 = .ok (.invokevirtual 98, 3) := by decide +kernel
theorem dX12_brook_56 : decode cX12_brook 56 = .ok (.if_icmp .ne 9, 3) := by decide +kernel
theorem dX12_brook_59 : decode cX12_brook 59 = .ok (.aload_n 0, 1) := by decide +kernel
theorem dX12_brook_60 : decode cX12_brook 60 = .ok (.iconst 4, 1) := by decide +kernel
theorem dX12_brook_61 : decode cX12_brook 61 = .ok (.invokevirtual 114, 3) := by decide +kernel
theorem dX12_brook_64 : decode cX12_brook 64 = .ok (.ireturn, 1) := by decide +kernel
theorem dX12_brook_65 : decode cX12_brook 65 = .ok (.aload_n 0, 1) := by decide +kernel
theorem dX12_brook_66 : decode cX12_brook 66 = .ok (.iload_n 1, 1) := by decide +kernel
theorem dX12_brook_67 : decode cX12_brook 67 = .ok (.iconst 3, 1) := by decide +kernel
theorem dX12_brook_68 : decode cX12_brook 68 = .ok (.iconst 1, 1) := by decide +kernel
theorem dX12_brook_69 : decode cX12_brook 69 = .ok (.invokevirtual 140, 3) := by decide +kernel
theorem dX12_brook_72 : decode cX12_brook 72 = .ok (.aload_n 0, 1) := by decide +kernel
theorem dX12_brook_73 : decode cX12_brook 73 = .ok (.iload_n 2, 1) := by decide +kernel
theorem dX12_brook_74 : decode cX12_brook 74 = .ok (.invokevirtual 117, 3) := by decide +kernel
theorem dX12_brook_77 : decode cX12_brook 77 = .ok (.ireturn, 1) := by decide +kernel
theorem dX12_rest_0 : decode cX12_rest 0 = .ok (.aload_n 0, 1) := by decide +kernel
theorem dX12_rest_1 : decode cX12_rest 1 = .ok (.iload_n 1, 1) := by decide +kernel
theorem dX12_rest_2 : decode cX12_rest 2 = .ok (.invokevirtual 148, 3) := by decide +kernel
theorem dX12_rest_5 : decode cX12_rest 5 = .ok (.ifCond .ne 9, 3) := by decide +kernel
theorem dX12_rest_8 : decode cX12_rest 8 = .ok (.aload_n 0, 1) := by decide +kernel
theorem dX12_rest_9 : decode cX12_rest 9 = .ok (.iconst 1, 1) := by decide +kernel
theorem dX12_rest_10 : decode cX12_rest 10 = .ok (.invokevirtual 114, 3) := by decide +kernel
theorem dX12_rest_13 : decode cX12_rest 13 = .ok (.ireturn, 1) := by decide +kernel
theorem dX12_rest_14 : decode cX12_rest 14 = .ok (.aload_n 0, 1) := by decide +kernel
theorem dX12_rest_15 : decode cX12_rest 15 = .ok (.iload_n 1, 1) := by decide +kernel
theorem dX12_rest_16 : decode cX12_rest 16 = .ok (.iconst 3, 1) := by decide +kernel
theorem dX12_rest_17 : decode cX12_rest 17 = .ok (.invokevirtual 79, 3) := by decide +kernel
theorem dX12_rest_20 : decode cX12_rest 20 = .ok (.iconst 1, 1) := by decide +kernel
theorem dX12_rest_21 : decode cX12_rest 21 = .ok (.if_icmp .eq 9, 3) := by decide +kernel
theorem dX12_rest_24 : decode cX12_rest 24 = .ok (.aload_n 0, 1) := by decide +kernel
theorem dX12_rest_25 : decode cX12_rest 25 = .ok (.iconst 3, 1) := by decide +kernel
theorem dX12_rest_26 : decode cX12_rest 26 = .ok (.invokevirtual 114, 3) := by decide +kernel
theorem dX12_rest_29 : decode cX12_rest 29 = .ok (.ireturn, 1) := by decide +kernel
theorem dX12_rest_30 : decode cX12_rest 30 = .ok (.aload_n 0, 1) := by decide +kernel
theorem dX12_rest_31 : decode cX12_rest 31 = .ok (.iload_n 1, 1) := by decide +kernel
theorem dX12_rest_32 : decode cX12_rest 32 = .ok (.iconst 3, 1) := by decide +kernel
theorem dX12_rest_33 : decode cX12_rest 33 = .ok (.iconst 0, 1) := by decide +kernel
theorem dX12_rest_34 : decode cX12_rest 34 = .ok (.invokevirtual 140, 3) := by decide +kernel
theorem dX12_rest_37 : decode cX12_rest 37 = .ok (.aload_n 0, 1) := by decide +kernel
theorem dX12_rest_38 : decode cX12_rest 38 = .ok (.aload_n 0, 1) := by decide +kernel
theorem dX12_rest_39 : decode cX12_rest 39 = .ok (.iload_n 1, 1) := by decide +kernel
theorem dX12_rest_40 : decode cX12_rest 40 = .ok (.iconst 2, 1) := by decide +kernel
theorem dX12_rest_41 : decode cX12_rest 41 = .ok (.invokevirtual 79, 3) := by decide +kernel
theorem dX12_rest_44 : decode cX12_rest 44 = .ok (.invokevirtual 117, 3) := by decide +kernel
theorem dX12_rest_47 : decode cX12_rest 47 = .ok (.ireturn, 1) := by decide +kernel
theorem dX12_takes_0 : decode cX12_takes 0 = .ok (.aload_n 0, 1) := by decide +kernel
theorem dX12_takes_1 : decode cX12_takes 1 = .ok (.getfield 9, 3) := by decide +kernel
theorem dX12_takes_4 : decode cX12_takes 4 = .ok (.iconst 1, 1) := by decide +kernel
theorem dX12_takes_5 : decode cX12_takes 5 = .ok (.aload_n 0, 1) := by decide +kernel
theorem dX12_takes_6 : decode cX12_takes 6 = .ok (.getfield 9, 3) := by decide +kernel
theorem dX12_takes_9 : decode cX12_takes 9 = .ok (.iconst 1, 1) := by decide +kernel
theorem dX12_takes_10 : decode cX12_takes 10 = .ok (.iaload, 1) := by decide +kernel
theorem dX12_takes_11 : decode cX12_takes 11 = .ok (.iload_n 1, 1) := by decide +kernel
theorem dX12_takes_12 : decode cX12_takes 12 = .ok (.iadd, 1) := by decide +kernel
theorem dX12_takes_13 : decode cX12_takes 13 = .ok (.ldc 170, 2) := by decide +kernel
theorem dX12_takes_15 : decode cX12_takes 15 = .ok (.ldc 171, 2) := by decide +kernel
theorem dX12_takes_17 : decode cX12_takes 17 = .ok (.invokestatic 95, 3) := by decide +kernel
theorem dX12_takes_20 : decode cX12_takes 20 = .ok (.iastore, 1) := by decide +kernel
theorem dX12_takes_21 : decode cX12_takes 21 = .ok (.return_, 1) := by decide +kernel
theorem dX12_cheese_0 : decode cX12_cheese 0 = .ok (.aload_n 0, 1) := by decide +kernel
theorem dX12_cheese_1 : decode cX12_cheese 1 = .ok (.iload_n 1, 1) := by decide +kernel
theorem dX12_cheese_2 : decode cX12_cheese 2 = .ok (.iconst 2, 1) := by decide +kernel
theorem dX12_cheese_3 : decode cX12_cheese 3 = .ok (.invokevirtual 98, 3) := by decide +kernel
theorem dX12_cheese_6 : decode cX12_cheese 6 = .ok (.iconst 0, 1) := by decide +kernel
theorem dX12_cheese_7 : decode cX12_cheese 7 = .ok (.bipush 100, 2) := by decide +kernel
theorem dX12_cheese_9 : decode cX12_cheese 9 = .ok (.iload_n 2, 1) := by decide +kernel
theorem dX12_cheese_10 : decode cX12_cheese 10 = .ok (.isub, 1) := by decide +kernel
theorem dX12_cheese_11 : decode cX12_cheese 11 = .ok (.invokestatic 60, 3) := by decide +kernel
theorem dX12_cheese_14 : decode cX12_cheese 14 = .ok (.imul, 1) := by decide +kernel
theorem dX12_cheese_15 : decode cX12_cheese 15 = .ok (.bipush 10, 2) := by decide +kernel
theorem dX12_cheese_17 : decode cX12_cheese 17 = .ok (.idiv, 1) := by decide +kernel
theorem dX12_cheese_18 : decode cX12_cheese 18 = .ok (.ireturn, 1) := by decide +kernel
theorem dX12_giveUp_0 : decode cX12_giveUp 0 = .ok (.aload_n 0, 1) := by decide +kernel
theorem dX12_giveUp_1 : decode cX12_giveUp 1 = .ok (.iload_n 1, 1) := by decide +kernel
theorem dX12_giveUp_2 : decode cX12_giveUp 2 = .ok (.invokevirtual 148, 3) := by decide +kernel
theorem dX12_giveUp_5 : decode cX12_giveUp 5 = .ok (.ifCond .ne 9, 3) := by decide +kernel
theorem dX12_giveUp_8 : decode cX12_giveUp 8 = .ok (.aload_n 0, 1) := by decide +kernel
theorem dX12_giveUp_9 : decode cX12_giveUp 9 = .ok (.iconst 1, 1) := by decide +kernel
theorem dX12_giveUp_10 : decode cX12_giveUp 10 = .ok (.invokevirtual 114, 3) := by decide +kernel
theorem dX12_giveUp_13 : decode cX12_giveUp 13 = .ok (.ireturn, 1) := by decide +kernel
theorem dX12_giveUp_14 : decode cX12_giveUp 14 = .ok (.aload_n 0, 1) := by decide +kernel
theorem dX12_giveUp_15 : decode cX12_giveUp 15 = .ok (.iload_n 1, 1) := by decide +kernel
theorem dX12_giveUp_16 : decode cX12_giveUp 16 = .ok (.invokevirtual 163, 3) := by decide +kernel
theorem dX12_giveUp_19 : decode cX12_giveUp 19 = .ok (.ifCond .ne 9, 3) := by decide +kernel
theorem dX12_giveUp_22 : decode cX12_giveUp 22 = .ok (.aload_n 0, 1) := by decide +kernel
theorem dX12_giveUp_23 : decode cX12_giveUp 23 = .ok (.iconst 3, 1) := by decide +kernel
theorem dX12_giveUp_24 : decode cX12_giveUp 24 = .ok (.invokevirtual 114, 3) := by decide +kernel
theorem dX12_giveUp_27 : decode cX12_giveUp 27 = .ok (.ireturn, 1) := by decide +kernel
theorem dX12_giveUp_28 : decode cX12_giveUp 28 = .ok (.aload_n 0, 1) := by decide +kernel
theorem dX12_giveUp_29 : decode cX12_giveUp 29 = .ok (.aload_n 0, 1) := by decide +kernel
theorem dX12_giveUp_30 : decode cX12_giveUp 30 = .ok (.iload_n 1, 1) := by decide +kernel
theorem dX12_giveUp_31 : decode cX12_giveUp 31 = .ok (.iconst 2, 1) := by decide +kernel
theorem dX12_giveUp_32 : decode cX12_giveUp 32 = .ok (.invokevirtual 79, 3) := by decide +kernel
theorem dX12_giveUp_35 : decode cX12_giveUp 35 = .ok (.aload_n 0, 1) := by decide +kernel
theorem dX12_giveUp_36 : decode cX12_giveUp 36 = .ok (.iload_n 1, 1) := by decide +kernel
theorem dX12_giveUp_37 : decode cX12_giveUp 37 = .ok (.iconst 5, 1) := by decide +kernel
theorem dX12_giveUp_38 : decode cX12_giveUp 38 = .ok (.invokevirtual 79, 3) := by decide +kernel
theorem dX12_giveUp_41 : decode cX12_giveUp 41 = .ok (.invokevirtual 172, 3) := by decide +kernel
theorem dX12_giveUp_44 : decode cX12_giveUp 44 = .ok (.istore_n 2, 1) := by decide +kernel
theorem dX12_giveUp_45 : decode cX12_giveUp 45 = .ok (.aload_n 0, 1) := by decide +kernel
theorem dX12_giveUp_46 : decode cX12_giveUp 46 = .ok (.iload_n 1, 1) := by decide +kernel
theorem dX12_giveUp_47 : decode cX12_giveUp 47 = .ok (.iconst 3, 1) := by decide +kernel
theorem dX12_giveUp_48 : decode cX12_giveUp 48 = .ok (.iconst 0, 1) := by decide +kernel
theorem dX12_giveUp_49 : decode cX12_giveUp 49 = .ok (.invokevirtual 140, 3) := by decide +kernel
theorem dX12_giveUp_52 : decode cX12_giveUp 52 = .ok (.aload_n 0, 1) := by decide +kernel
theorem dX12_giveUp_53 : decode cX12_giveUp 53 = .ok (.iload_n 1, 1) := by decide +kernel
theorem dX12_giveUp_54 : decode cX12_giveUp 54 = .ok (.bipush 8, 2) := by decide +kernel
theorem dX12_giveUp_56 : decode cX12_giveUp 56 = .ok (.iconst 1, 1) := by decide +kernel
theorem dX12_giveUp_57 : decode cX12_giveUp 57 = .ok (.invokevirtual 140, 3) := by decide +kernel
theorem dX12_giveUp_60 : decode cX12_giveUp 60 = .ok (.aload_n 0, 1) := by decide +kernel
theorem dX12_giveUp_61 : decode cX12_giveUp 61 = .ok (.iload_n 2, 1) := by decide +kernel
theorem dX12_giveUp_62 : decode cX12_giveUp 62 = .ok (.invokevirtual 175, 3) := by decide +kernel
theorem dX12_giveUp_65 : decode cX12_giveUp 65 = .ok (.iload_n 2, 1) := by decide +kernel
theorem dX12_giveUp_66 : decode cX12_giveUp 66 = .ok (.ireturn, 1) := by decide +kernel
theorem dX12_refill_0 : decode cX12_refill 0 = .ok (.aload_n 0, 1) := by decide +kernel
theorem dX12_refill_1 : decode cX12_refill 1 = .ok (.iload_n 1, 1) := by decide +kernel
theorem dX12_refill_2 : decode cX12_refill 2 = .ok (.invokevirtual 148, 3) := by decide +kernel
theorem dX12_refill_5 : decode cX12_refill 5 = .ok (.ifCond .ne 9, 3) := by decide +kernel
theorem dX12_refill_8 : decode cX12_refill 8 = .ok (.aload_n 0, 1) := by decide +kernel
theorem dX12_refill_9 : decode cX12_refill 9 = .ok (.iconst 1, 1) := by decide +kernel
theorem dX12_refill_10 : decode cX12_refill 10 = .ok (.invokevirtual 114, 3) := by decide +kernel
theorem dX12_refill_13 : decode cX12_refill 13 = .ok (.ireturn, 1) := by decide +kernel
theorem dX12_refill_14 : decode cX12_refill 14 = .ok (.aload_n 0, 1) := by decide +kernel
theorem dX12_refill_15 : decode cX12_refill 15 = .ok (.iload_n 1, 1) := by decide +kernel
theorem dX12_refill_16 : decode cX12_refill 16 = .ok (.iconst 3, 1) := by decide +kernel
theorem dX12_refill_17 : decode cX12_refill 17 = .ok (.invokevirtual 79, 3) := by decide +kernel
theorem dX12_refill_20 : decode cX12_refill 20 = .ok (.istore_n 2, 1) := by decide +kernel
theorem dX12_refill_21 : decode cX12_refill 21 = .ok (.aload_n 0, 1) := by decide +kernel
theorem dX12_refill_22 : decode cX12_refill 22 = .ok (.iload_n 1, 1) := by decide +kernel
theorem dX12_refill_23 : decode cX12_refill 23 = .ok (.invokevirtual 144, 3) := by decide +kernel
theorem dX12_refill_26 : decode cX12_refill 26 = .ok (.iload_n 2, 1) := by decide +kernel
theorem dX12_refill_27 : decode cX12_refill 27 = .ok (.ireturn, 1) := by decide +kernel
theorem dX12_feed_0 : decode cX12_feed 0 = .ok (.iload_n 3, 1) := by decide +kernel
theorem dX12_feed_1 : decode cX12_feed 1 = .ok (.i2l, 1) := by decide +kernel
theorem dX12_feed_2 : decode cX12_feed 2 = .ok (.lconst 1, 1) := by decide +kernel
theorem dX12_feed_3 : decode cX12_feed 3 = .ok (.ldc2_w 67, 3) := by decide +kernel
theorem dX12_feed_6 : decode cX12_feed 6 = .ok (.invokestatic 69, 3) := by decide +kernel
theorem dX12_feed_9 : decode cX12_feed 9 = .ok (.ifCond .ne 9, 3) := by decide +kernel
theorem dX12_feed_12 : decode cX12_feed 12 = .ok (.aload_n 0, 1) := by decide +kernel
theorem dX12_feed_13 : decode cX12_feed 13 = .ok (.iconst 1, 1) := by decide +kernel
theorem dX12_feed_14 : decode cX12_feed 14 = .ok (.invokevirtual 114, 3) := by decide +kernel
theorem dX12_feed_17 : decode cX12_feed 17 = .ok (.ireturn, 1) := by decide +kernel
theorem dX12_feed_18 : decode cX12_feed 18 = .ok (.aload_n 0, 1) := by decide +kernel
theorem dX12_feed_19 : decode cX12_feed 19 = .ok (.getfield 9, 3) := by decide +kernel
theorem dX12_feed_22 : decode cX12_feed 22 = .ok (.iconst 4, 1) := by decide +kernel
theorem dX12_feed_23 : decode cX12_feed 23 = .ok (.iaload, 1) := by decide +kernel
theorem dX12_feed_24 : decode cX12_feed 24 = .ok (.iload_n 3, 1) := by decide +kernel
theorem dX12_feed_25 : decode cX12_feed 25 = .ok (.iadd, 1) := by decide +kernel
theorem dX12_feed_26 : decode cX12_feed 26 = .ok (.bipush 50, 2) := by decide +kernel
theorem dX12_feed_28 : decode cX12_feed 28 = .ok (.if_icmp .le 9, 3) := by decide +kernel
theorem dX12_feed_31 : decode cX12_feed 31 = .ok (.aload_n 0, 1) := by decide +kernel
theorem dX12_feed_32 : decode cX12_feed 32 = .ok (.iconst 4, 1) := by decide +kernel
theorem dX12_feed_33 : decode cX12_feed 33 = .ok (.invokevirtual 114, 3) := by decide +kernel
theorem dX12_feed_36 : decode cX12_feed 36 = .ok (.ireturn, 1) := by decide +kernel
theorem dX12_feed_37 : decode cX12_feed 37 = .ok (.iconst 0, 1) := by decide +kernel
theorem dX12_feed_38 : decode cX12_feed 38 = .ok (.istore 4, 2) := by decide +kernel
theorem dX12_feed_40 : decode cX12_feed 40 = .ok (.iload 4, 2) := by decide +kernel
theorem dX12_feed_42 : decode cX12_feed 42 = .ok (.iload_n 3, 1) := by decide +kernel
theorem dX12_feed_43 : decode cX12_feed 43 = .ok (.if_icmp .ge 46, 3) := by decide +kernel
theorem dX12_feed_46 : decode cX12_feed 46 = .ok (.aload_n 0, 1) := by decide +kernel
theorem dX12_feed_47 : decode cX12_feed 47 = .ok (.getfield 9, 3) := by decide +kernel
theorem dX12_feed_50 : decode cX12_feed 50 = .ok (.sipush 197, 3) := by decide +kernel
theorem dX12_feed_53 : decode cX12_feed 53 = .ok (.aload_n 0, 1) := by decide +kernel
theorem dX12_feed_54 : decode cX12_feed 54 = .ok (.getfield 9, 3) := by decide +kernel
theorem dX12_feed_57 : decode cX12_feed 57 = .ok (.iconst 4, 1) := by decide +kernel
theorem dX12_feed_58 : decode cX12_feed 58 = .ok (.iaload, 1) := by decide +kernel
theorem dX12_feed_59 : decode cX12_feed 59 = .ok (.iadd, 1) := by decide +kernel
theorem dX12_feed_60 : decode cX12_feed 60 = .ok (.lload_n 1, 1) := by decide +kernel
theorem dX12_feed_61 : decode cX12_feed 61 = .ok (.bipush 8, 2) := by decide +kernel
theorem dX12_feed_63 : decode cX12_feed 63 = .ok (.iload 4, 2) := by decide +kernel
theorem dX12_feed_65 : decode cX12_feed 65 = .ok (.imul, 1) := by decide +kernel
theorem dX12_feed_66 : decode cX12_feed 66 = .ok (.lshr, 1) := by decide +kernel
theorem dX12_feed_67 : decode cX12_feed 67 = .ok (.ldc2_w 178, 3) := by decide +kernel
theorem dX12_feed_70 : decode cX12_feed 70 = .ok (.land, 1) := by decide +kernel
theorem dX12_feed_71 : decode cX12_feed 71 = .ok (.l2i, 1) := by decide +kernel
theorem dX12_feed_72 : decode cX12_feed 72 = .ok (.iastore, 1) := by decide +kernel
theorem dX12_feed_73 : decode cX12_feed 73 = .ok (.aload_n 0, 1) := by decide +kernel
theorem dX12_feed_74 : decode cX12_feed 74 = .ok (.getfield 9, 3) := by decide +kernel
theorem dX12_feed_77 : decode cX12_feed 77 = .ok (.iconst 4, 1) := by decide +kernel
theorem dX12_feed_78 : decode cX12_feed 78 = .ok (.dup2, 1) := by decide +kernel
theorem dX12_feed_79 : decode cX12_feed 79 = .ok (.iaload, 1) := by decide +kernel
theorem dX12_feed_80 : decode cX12_feed 80 = .ok (.iconst 1, 1) := by decide +kernel
theorem dX12_feed_81 : decode cX12_feed 81 = .ok (.iadd, 1) := by decide +kernel
theorem dX12_feed_82 : decode cX12_feed 82 = .ok (.iastore, 1) := by decide +kernel
theorem dX12_feed_83 : decode cX12_feed 83 = .ok (.iinc 4 1, 3) := by decide +kernel
theorem dX12_feed_86 : decode cX12_feed 86 = .ok (.goto (-46), 3) := by decide +kernel
theorem dX12_feed_89 : decode cX12_feed 89 = .ok (.aload_n 0, 1) := by decide +kernel
theorem dX12_feed_90 : decode cX12_feed 90 = .ok (.getfield 9, 3) := by decide +kernel
theorem dX12_feed_93 : decode cX12_feed 93 = .ok (.iconst 4, 1) := by decide +kernel
theorem dX12_feed_94 : decode cX12_feed 94 = .ok (.iaload, 1) := by decide +kernel
theorem dX12_feed_95 : decode cX12_feed 95 = .ok (.ireturn, 1) := by decide +kernel
theorem dX12_here_0 : decode cX12_here 0 = .ok (.aload_n 0, 1) := by decide +kernel
theorem dX12_here_1 : decode cX12_here 1 = .ok (.getfield 180, 3) := by decide +kernel
theorem dX12_here_4 : decode cX12_here 4 = .ok (.aload_n 0, 1) := by decide +kernel
theorem dX12_here_5 : decode cX12_here 5 = .ok (.getfield 9, 3) := by decide +kernel
theorem dX12_here_8 : decode cX12_here 8 = .ok (.iconst 4, 1) := by decide +kernel
theorem dX12_here_9 : decode cX12_here 9 = .ok (.iaload, 1) := by decide +kernel
theorem dX12_here_10 : decode cX12_here 10 = .ok (.if_icmp .ge 26, 3) := by decide +kernel
theorem dX12_here_13 : decode cX12_here 13 = .ok (.aload_n 0, 1) := by decide +kernel
theorem dX12_here_14 : decode cX12_here 14 = .ok (.getfield 184, 3) := by decide +kernel
theorem dX12_here_17 : decode cX12_here 17 = .ok (.ifCond .ne 19, 3) := by decide +kernel
theorem dX12_here_20 : decode cX12_here 20 = .ok (.aload_n 0, 1) := by decide +kernel
theorem dX12_here_21 : decode cX12_here 21 = .ok (.getfield 9, 3) := by decide +kernel
theorem dX12_here_24 : decode cX12_here 24 = .ok (.sipush 197, 3) := by decide +kernel
theorem dX12_here_27 : decode cX12_here 27 = .ok (.aload_n 0, 1) := by decide +kernel
theorem dX12_here_28 : decode cX12_here 28 = .ok (.getfield 180, 3) := by decide +kernel
theorem dX12_here_31 : decode cX12_here 31 = .ok (.iadd, 1) := by decide +kernel
theorem dX12_here_32 : decode cX12_here 32 = .ok (.iaload, 1) := by decide +kernel
theorem dX12_here_33 : decode cX12_here 33 = .ok (.goto 4, 3) := by decide +kernel
theorem dX12_here_36 : decode cX12_here 36 = .ok (.iconst (-1), 1) := by decide +kernel
theorem dX12_here_37 : decode cX12_here 37 = .ok (.ireturn, 1) := by decide +kernel
theorem dX12_isDigit_0 : decode cX12_isDigit 0 = .ok (.aload_n 0, 1) := by decide +kernel
theorem dX12_isDigit_1 : decode cX12_isDigit 1 = .ok (.invokevirtual 188, 3) := by decide +kernel
theorem dX12_isDigit_4 : decode cX12_isDigit 4 = .ok (.i2l, 1) := by decide +kernel
theorem dX12_isDigit_5 : decode cX12_isDigit 5 = .ok (.ldc2_w 192, 3) := by decide +kernel
theorem dX12_isDigit_8 : decode cX12_isDigit 8 = .ok (.ldc2_w 194, 3) := by decide +kernel
theorem dX12_isDigit_11 : decode cX12_isDigit 11 = .ok (.invokestatic 69, 3) := by decide +kernel
theorem dX12_isDigit_14 : decode cX12_isDigit 14 = .ok (.ireturn, 1) := by decide +kernel
theorem dX12_puts_0 : decode cX12_puts 0 = .ok (.aload_n 0, 1) := by decide +kernel
theorem dX12_puts_1 : decode cX12_puts 1 = .ok (.getfield 184, 3) := by decide +kernel
theorem dX12_puts_4 : decode cX12_puts 4 = .ok (.ifCond .ne 23, 3) := by decide +kernel
theorem dX12_puts_7 : decode cX12_puts 7 = .ok (.aload_n 0, 1) := by decide +kernel
theorem dX12_puts_8 : decode cX12_puts 8 = .ok (.getfield 28, 3) := by decide +kernel
theorem dX12_puts_11 : decode cX12_puts 11 = .ok (.aload_n 0, 1) := by decide +kernel
theorem dX12_puts_12 : decode cX12_puts 12 = .ok (.getfield 196, 3) := by decide +kernel
theorem dX12_puts_15 : decode cX12_puts 15 = .ok (.iload_n 1, 1) := by decide +kernel
theorem dX12_puts_16 : decode cX12_puts 16 = .ok (.iastore, 1) := by decide +kernel
theorem dX12_puts_17 : decode cX12_puts 17 = .ok (.aload_n 0, 1) := by decide +kernel
theorem dX12_puts_18 : decode cX12_puts 18 = .ok (.dup, 1) := by decide +kernel
theorem dX12_puts_19 : decode cX12_puts 19 = .ok (.getfield 196, 3) := by decide +kernel
theorem dX12_puts_22 : decode cX12_puts 22 = .ok (.iconst 1, 1) := by decide +kernel
theorem dX12_puts_23 : decode cX12_puts 23 = .ok (.iadd, 1) := by decide +kernel
theorem dX12_puts_24 : decode cX12_puts 24 = .ok (.putfield 196, 3) := by decide +kernel
theorem dX12_puts_27 : decode cX12_puts 27 = .ok (.return_, 1) := by decide +kernel
theorem dX12_takes__0 : decode cX12_takes_ 0 = .ok (.aload_n 0, 1) := by decide +kernel
theorem dX12_takes__1 : decode cX12_takes_ 1 = .ok (.invokevirtual 188, 3) := by decide +kernel
theorem dX12_takes__4 : decode cX12_takes_ 4 = .ok (.iload_n 1, 1) := by decide +kernel
theorem dX12_takes__5 : decode cX12_takes_ 5 = .ok (.if_icmp .ne 7, 3) := by decide +kernel
theorem dX12_takes__8 : decode cX12_takes_ 8 = .ok (.iconst 1, 1) := by decide +kernel
theorem dX12_takes__9 : decode cX12_takes_ 9 = .ok (.goto 4, 3) := by decide +kernel
theorem dX12_takes__12 : decode cX12_takes_ 12 = .ok (.iconst 0, 1) := by decide +kernel
theorem dX12_takes__13 : decode cX12_takes_ 13 = .ok (.istore_n 2, 1) := by decide +kernel
theorem dX12_takes__14 : decode cX12_takes_ 14 = .ok (.aload_n 0, 1) := by decide +kernel
theorem dX12_takes__15 : decode cX12_takes_ 15 = .ok (.dup, 1) := by decide +kernel
theorem dX12_takes__16 : decode cX12_takes_ 16 = .ok (.getfield 180, 3) := by decide +kernel
theorem dX12_takes__19 : decode cX12_takes_ 19 = .ok (.iload_n 2, 1) := by decide +kernel
theorem dX12_takes__20 : decode cX12_takes_ 20 = .ok (.ifCond .eq 7, 3) := by decide +kernel
theorem dX12_takes__23 : decode cX12_takes_ 23 = .ok (.iconst 1, 1) := by decide +kernel
theorem dX12_takes__24 : decode cX12_takes_ 24 = .ok (.goto 4, 3) := by decide +kernel
theorem dX12_takes__27 : decode cX12_takes_ 27 = .ok (.iconst 0, 1) := by decide +kernel
theorem dX12_takes__28 : decode cX12_takes_ 28 = .ok (.iadd, 1) := by decide +kernel
theorem dX12_takes__29 : decode cX12_takes_ 29 = .ok (.putfield 180, 3) := by decide +kernel
theorem dX12_takes__32 : decode cX12_takes_ 32 = .ok (.iload_n 2, 1) := by decide +kernel
theorem dX12_takes__33 : decode cX12_takes_ 33 = .ok (.ireturn, 1) := by decide +kernel
theorem dX12_nameHere_0 : decode cX12_nameHere 0 = .ok (.aload_n 0, 1) := by decide +kernel
theorem dX12_nameHere_1 : decode cX12_nameHere 1 = .ok (.invokevirtual 188, 3) := by decide +kernel
theorem dX12_nameHere_4 : decode cX12_nameHere 4 = .ok (.istore_n 1, 1) := by decide +kernel
theorem dX12_nameHere_5 : decode cX12_nameHere 5 = .ok (.aload_n 0, 1) := by decide +kernel
theorem dX12_nameHere_6 : decode cX12_nameHere 6 = .ok (.getfield 199, 3) := by decide +kernel
theorem dX12_nameHere_9 : decode cX12_nameHere 9 = .ok (.ifCond .ne 25, 3) := by decide +kernel
theorem dX12_nameHere_12 : decode cX12_nameHere 12 = .ok (.iload_n 1, 1) := by decide +kernel
theorem dX12_nameHere_13 : decode cX12_nameHere 13 = .ok (.bipush 116, 2) := by decide +kernel
theorem dX12_nameHere_15 : decode cX12_nameHere 15 = .ok (.if_icmp .ne 7, 3) := by decide +kernel
theorem dX12_nameHere_18 : decode cX12_nameHere 18 = .ok (.iconst 0, 1) := by decide +kernel
theorem dX12_nameHere_19 : decode cX12_nameHere 19 = .ok (.goto 14, 3) := by decide +kernel
theorem dX12_nameHere_22 : decode cX12_nameHere 22 = .ok (.iload_n 1, 1) := by decide +kernel
theorem dX12_nameHere_23 : decode cX12_nameHere 23 = .ok (.bipush 113, 2) := by decide +kernel
theorem dX12_nameHere_25 : decode cX12_nameHere 25 = .ok (.if_icmp .ne 7, 3) := by decide +kernel
theorem dX12_nameHere_28 : decode cX12_nameHere 28 = .ok (.iconst 1, 1) := by decide +kernel
theorem dX12_nameHere_29 : decode cX12_nameHere 29 = .ok (.goto 4, 3) := by decide +kernel
theorem dX12_nameHere_32 : decode cX12_nameHere 32 = .ok (.iconst (-1), 1) := by decide +kernel
theorem dX12_nameHere_33 : decode cX12_nameHere 33 = .ok (.ireturn, 1) := by decide +kernel
theorem dX12_nameHere_34 : decode cX12_nameHere 34 = .ok (.iload_n 1, 1) := by decide +kernel
theorem dX12_nameHere_35 : decode cX12_nameHere 35 = .ok (.bipush 115, 2) := by decide +kernel
theorem dX12_nameHere_37 : decode cX12_nameHere 37 = .ok (.if_icmp .ne 7, 3) := by decide +kernel
theorem dX12_nameHere_40 : decode cX12_nameHere 40 = .ok (.iconst 0, 1) := by decide +kernel
theorem dX12_nameHere_41 : decode cX12_nameHere 41 = .ok (.goto 24, 3) := by decide +kernel
theorem dX12_nameHere_44 : decode cX12_nameHere 44 = .ok (.iload_n 1, 1) := by decide +kernel
theorem dX12_nameHere_45 : decode cX12_nameHere 45 = .ok (.bipush 114, 2) := by decide +kernel
theorem dX12_nameHere_47 : decode cX12_nameHere 47 = .ok (.if_icmp .ne 7, 3) := by decide +kernel
theorem dX12_nameHere_50 : decode cX12_nameHere 50 = .ok (.iconst 1, 1) := by decide +kernel
theorem dX12_nameHere_51 : decode cX12_nameHere 51 = .ok (.goto 14, 3) := by decide +kernel
theorem dX12_nameHere_54 : decode cX12_nameHere 54 = .ok (.iload_n 1, 1) := by decide +kernel
theorem dX12_nameHere_55 : decode cX12_nameHere 55 = .ok (.bipush 109, 2) := by decide +kernel
theorem dX12_nameHere_57 : decode cX12_nameHere 57 = .ok (.if_icmp .ne 7, 3) := by decide +kernel
theorem dX12_nameHere_60 : decode cX12_nameHere 60 = .ok (.iconst 2, 1) := by decide +kernel
theorem dX12_nameHere_61 : decode cX12_nameHere 61 = .ok (.goto 4, 3) := by decide +kernel
theorem dX12_nameHere_64 : decode cX12_nameHere 64 = .ok (.iconst (-1), 1) := by decide +kernel
theorem dX12_nameHere_65 : decode cX12_nameHere 65 = .ok (.ireturn, 1) := by decide +kernel
theorem dX12_numberRead_0 : decode cX12_numberRead 0 = .ok (.iconst 0, 1) := by decide +kernel
theorem dX12_numberRead_1 : decode cX12_numberRead 1 = .ok (.istore_n 1, 1) := by decide +kernel
theorem dX12_numberRead_2 : decode cX12_numberRead 2 = .ok (.iconst 0, 1) := by decide +kernel
theorem dX12_numberRead_3 : decode cX12_numberRead 3 = .ok (.istore_n 2, 1) := by decide +kernel
theorem dX12_numberRead_4 : decode cX12_numberRead 4 = .ok (.iload_n 2, 1) := by decide +kernel
theorem dX12_numberRead_5 : decode cX12_numberRead 5 = .ok (.iconst 4, 1) := by decide +kernel
theorem dX12_numberRead_6 : decode cX12_numberRead 6 = .ok (.if_icmp .ge 39, 3) := by decide +kernel
theorem dX12_numberRead_9 : decode cX12_numberRead 9 = .ok (.aload_n 0, 1) := by decide +kernel
theorem dX12_numberRead_10 : decode cX12_numberRead 10 = .ok (.invokevirtual 202, 3) := by decide +kernel
theorem dX12_numberRead_13 : decode cX12_numberRead 13 = .ok (.ifCond .eq 32, 3) := by decide +kernel
theorem dX12_numberRead_16 : decode cX12_numberRead 16 = .ok (.bipush 10, 2) := by decide +kernel
theorem dX12_numberRead_18 : decode cX12_numberRead 18 = .ok (.iload_n 1, 1) := by decide +kernel
theorem dX12_numberRead_19 : decode cX12_numberRead 19 = .ok (.imul, 1) := by decide +kernel
theorem dX12_numberRead_20 : decode cX12_numberRead 20 = .ok (.aload_n 0, 1) := by decide +kernel
theorem dX12_numberRead_21 : decode cX12_numberRead 21 = .ok (.invokevirtual 188, 3) := by decide +kernel
theorem dX12_numberRead_24 : decode cX12_numberRead 24 = .ok (.iadd, 1) := by decide +kernel
theorem dX12_numberRead_25 : decode cX12_numberRead 25 = .ok (.bipush 48, 2) := by decide +kernel
theorem dX12_numberRead_27 : decode cX12_numberRead 27 = .ok (.isub, 1) := by decide +kernel
theorem dX12_numberRead_28 : decode cX12_numberRead 28 = .ok (.istore_n 1, 1) := by decide +kernel
theorem dX12_numberRead_29 : decode cX12_numberRead 29 = .ok (.aload_n 0, 1) := by decide +kernel
theorem dX12_numberRead_30 : decode cX12_numberRead 30 = .ok (.dup, 1) := by decide +kernel
theorem dX12_numberRead_31 : decode cX12_numberRead 31 = .ok (.getfield 180, 3) := by decide +kernel
theorem dX12_numberRead_34 : decode cX12_numberRead 34 = .ok (.iconst 1, 1) := by decide +kernel
theorem dX12_numberRead_35 : decode cX12_numberRead 35 = .ok (.iadd, 1) := by decide +kernel
theorem dX12_numberRead_36 : decode cX12_numberRead 36 = .ok (.putfield 180, 3) := by decide +kernel
theorem dX12_numberRead_39 : decode cX12_numberRead 39 = .ok (.iinc 2 1, 3) := by decide +kernel
theorem dX12_numberRead_42 : decode cX12_numberRead 42 = .ok (.goto (-38), 3) := by decide +kernel
theorem dX12_numberRead_45 : decode cX12_numberRead 45 = .ok (.aload_n 0, 1) := by decide +kernel
theorem dX12_numberRead_46 : decode cX12_numberRead 46 = .ok (.iload_n 1, 1) := by decide +kernel
theorem dX12_numberRead_47 : decode cX12_numberRead 47 = .ok (.invokevirtual 206, 3) := by decide +kernel
theorem dX12_numberRead_50 : decode cX12_numberRead 50 = .ok (.return_, 1) := by decide +kernel
theorem dX12_opens_0 : decode cX12_opens 0 = .ok (.aload_n 0, 1) := by decide +kernel
theorem dX12_opens_1 : decode cX12_opens 1 = .ok (.aload_n 0, 1) := by decide +kernel
theorem dX12_opens_2 : decode cX12_opens 2 = .ok (.getfield 184, 3) := by decide +kernel
theorem dX12_opens_5 : decode cX12_opens 5 = .ok (.ifCond .ne 11, 3) := by decide +kernel
theorem dX12_opens_8 : decode cX12_opens 8 = .ok (.aload_n 0, 1) := by decide +kernel
theorem dX12_opens_9 : decode cX12_opens 9 = .ok (.getfield 209, 3) := by decide +kernel
theorem dX12_opens_12 : decode cX12_opens 12 = .ok (.iconst 5, 1) := by decide +kernel
theorem dX12_opens_13 : decode cX12_opens 13 = .ok (.if_icmp .ne 7, 3) := by decide +kernel
theorem dX12_opens_16 : decode cX12_opens 16 = .ok (.iconst 1, 1) := by decide +kernel
theorem dX12_opens_17 : decode cX12_opens 17 = .ok (.goto 4, 3) := by decide +kernel
theorem dX12_opens_20 : decode cX12_opens 20 = .ok (.iconst 0, 1) := by decide +kernel
theorem dX12_opens_21 : decode cX12_opens 21 = .ok (.putfield 184, 3) := by decide +kernel
theorem dX12_opens_24 : decode cX12_opens 24 = .ok (.aload_n 0, 1) := by decide +kernel
theorem dX12_opens_25 : decode cX12_opens 25 = .ok (.dup, 1) := by decide +kernel
theorem dX12_opens_26 : decode cX12_opens 26 = .ok (.getfield 180, 3) := by decide +kernel
theorem dX12_opens_29 : decode cX12_opens 29 = .ok (.aload_n 0, 1) := by decide +kernel
theorem dX12_opens_30 : decode cX12_opens 30 = .ok (.getfield 184, 3) := by decide +kernel
theorem dX12_opens_33 : decode cX12_opens 33 = .ok (.ifCond .eq 7, 3) := by decide +kernel
theorem dX12_opens_36 : decode cX12_opens 36 = .ok (.iconst 0, 1) := by decide +kernel
theorem dX12_opens_37 : decode cX12_opens 37 = .ok (.goto 4, 3) := by decide +kernel
theorem dX12_opens_40 : decode cX12_opens 40 = .ok (.iconst 1, 1) := by decide +kernel
theorem dX12_opens_41 : decode cX12_opens 41 = .ok (.iadd, 1) := by decide +kernel
theorem dX12_opens_42 : decode cX12_opens 42 = .ok (.putfield 180, 3) := by decide +kernel
theorem dX12_opens_45 : decode cX12_opens 45 = .ok (.aload_n 0, 1) := by decide +kernel
theorem dX12_opens_46 : decode cX12_opens 46 = .ok (.dup, 1) := by decide +kernel
theorem dX12_opens_47 : decode cX12_opens 47 = .ok (.getfield 209, 3) := by decide +kernel
theorem dX12_opens_50 : decode cX12_opens 50 = .ok (.iconst 1, 1) := by decide +kernel
theorem dX12_opens_51 : decode cX12_opens 51 = .ok (.iadd, 1) := by decide +kernel
theorem dX12_opens_52 : decode cX12_opens 52 = .ok (.putfield 209, 3) := by decide +kernel
theorem dX12_opens_55 : decode cX12_opens 55 = .ok (.return_, 1) := by decide +kernel
theorem dX12_q_0 : decode cX12_q 0 = .ok (.aload_n 0, 1) := by decide +kernel
theorem dX12_q_1 : decode cX12_q 1 = .ok (.invokevirtual 212, 3) := by decide +kernel
theorem dX12_q_4 : decode cX12_q 4 = .ok (.istore_n 1, 1) := by decide +kernel
theorem dX12_q_5 : decode cX12_q 5 = .ok (.aload_n 0, 1) := by decide +kernel
theorem dX12_q_6 : decode cX12_q 6 = .ok (.invokevirtual 202, 3) := by decide +kernel
theorem dX12_q_9 : decode cX12_q 9 = .ok (.ifCond .eq 10, 3) := by decide +kernel
theorem dX12_q_12 : decode cX12_q 12 = .ok (.aload_n 0, 1) := by decide +kernel
theorem dX12_q_13 : decode cX12_q 13 = .ok (.invokevirtual 215, 3) := by decide +kernel
theorem dX12_q_16 : decode cX12_q 16 = .ok (.goto 124, 3) := by decide +kernel
theorem dX12_q_19 : decode cX12_q 19 = .ok (.iload_n 1, 1) := by decide +kernel
theorem dX12_q_20 : decode cX12_q 20 = .ok (.ifCond .lt 23, 3) := by decide +kernel
theorem dX12_q_23 : decode cX12_q 23 = .ok (.aload_n 0, 1) := by decide +kernel
theorem dX12_q_24 : decode cX12_q 24 = .ok (.dup, 1) := by decide +kernel
theorem dX12_q_25 : decode cX12_q 25 = .ok (.getfield 180, 3) := by decide +kernel
theorem dX12_q_28 : decode cX12_q 28 = .ok (.iconst 1, 1) := by decide +kernel
theorem dX12_q_29 : decode cX12_q 29 = .ok (.iadd, 1) := by decide +kernel
theorem dX12_q_30 : decode cX12_q 30 = .ok (.putfield 180, 3) := by decide +kernel
theorem dX12_q_33 : decode cX12_q 33 = .ok (.aload_n 0, 1) := by decide +kernel
theorem dX12_q_34 : decode cX12_q 34 = .ok (.iconst (-1), 1) := by decide +kernel
theorem dX12_q_35 : decode cX12_q 35 = .ok (.iload_n 1, 1) := by decide +kernel
theorem dX12_q_36 : decode cX12_q 36 = .ok (.isub, 1) := by decide +kernel
theorem dX12_q_37 : decode cX12_q 37 = .ok (.invokevirtual 206, 3) := by decide +kernel
theorem dX12_q_40 : decode cX12_q 40 = .ok (.goto 100, 3) := by decide +kernel
theorem dX12_q_43 : decode cX12_q 43 = .ok (.aload_n 0, 1) := by decide +kernel
theorem dX12_q_44 : decode cX12_q 44 = .ok (.invokevirtual 188, 3) := by decide +kernel
theorem dX12_q_47 : decode cX12_q 47 = .ok (.bipush 33, 2) := by decide +kernel
theorem dX12_q_49 : decode cX12_q 49 = .ok (.if_icmp .ne 31, 3) := by decide +kernel
theorem dX12_q_52 : decode cX12_q 52 = .ok (.aload_n 0, 1) := by decide +kernel
theorem dX12_q_53 : decode cX12_q 53 = .ok (.invokevirtual 218, 3) := by decide +kernel
theorem dX12_q_56 : decode cX12_q 56 = .ok (.aload_n 0, 1) := by decide +kernel
theorem dX12_q_57 : decode cX12_q 57 = .ok (.invokevirtual 221, 3) := by decide +kernel
theorem dX12_q_60 : decode cX12_q 60 = .ok (.aload_n 0, 1) := by decide +kernel
theorem dX12_q_61 : decode cX12_q 61 = .ok (.dup, 1) := by decide +kernel
theorem dX12_q_62 : decode cX12_q 62 = .ok (.getfield 209, 3) := by decide +kernel
theorem dX12_q_65 : decode cX12_q 65 = .ok (.iconst 1, 1) := by decide +kernel
theorem dX12_q_66 : decode cX12_q 66 = .ok (.isub, 1) := by decide +kernel
theorem dX12_q_67 : decode cX12_q 67 = .ok (.putfield 209, 3) := by decide +kernel
theorem dX12_q_70 : decode cX12_q 70 = .ok (.aload_n 0, 1) := by decide +kernel
theorem dX12_q_71 : decode cX12_q 71 = .ok (.sipush (-133), 3) := by decide +kernel
theorem dX12_q_74 : decode cX12_q 74 = .ok (.invokevirtual 206, 3) := by decide +kernel
theorem dX12_q_77 : decode cX12_q 77 = .ok (.goto 63, 3) := by decide +kernel
theorem dX12_q_80 : decode cX12_q 80 = .ok (.aload_n 0, 1) := by decide +kernel
theorem dX12_q_81 : decode cX12_q 81 = .ok (.invokevirtual 188, 3) := by decide +kernel
theorem dX12_q_84 : decode cX12_q 84 = .ok (.bipush 40, 2) := by decide +kernel
theorem dX12_q_86 : decode cX12_q 86 = .ok (.if_icmp .ne 49, 3) := by decide +kernel
theorem dX12_q_89 : decode cX12_q 89 = .ok (.aload_n 0, 1) := by decide +kernel
theorem dX12_q_90 : decode cX12_q 90 = .ok (.invokevirtual 218, 3) := by decide +kernel
theorem dX12_q_93 : decode cX12_q 93 = .ok (.aload_n 0, 1) := by decide +kernel
theorem dX12_q_94 : decode cX12_q 94 = .ok (.invokevirtual 224, 3) := by decide +kernel
theorem dX12_q_97 : decode cX12_q 97 = .ok (.aload_n 0, 1) := by decide +kernel
theorem dX12_q_98 : decode cX12_q 98 = .ok (.aload_n 0, 1) := by decide +kernel
theorem dX12_q_99 : decode cX12_q 99 = .ok (.getfield 184, 3) := by decide +kernel
theorem dX12_q_102 : decode cX12_q 102 = .ok (.ifCond .ne 12, 3) := by decide +kernel
theorem dX12_q_105 : decode cX12_q 105 = .ok (.aload_n 0, 1) := by decide +kernel
theorem dX12_q_106 : decode cX12_q 106 = .ok (.bipush 41, 2) := by decide +kernel
theorem dX12_q_108 : decode cX12_q 108 = .ok (.invokevirtual 227, 3) := by decide +kernel
theorem dX12_q_111 : decode cX12_q 111 = .ok (.ifCond .ne 7, 3) := by decide +kernel
theorem dX12_q_114 : decode cX12_q 114 = .ok (.iconst 1, 1) := by decide +kernel
theorem dX12_q_115 : decode cX12_q 115 = .ok (.goto 4, 3) := by decide +kernel
theorem dX12_q_118 : decode cX12_q 118 = .ok (.iconst 0, 1) := by decide +kernel
theorem dX12_q_119 : decode cX12_q 119 = .ok (.putfield 184, 3) := by decide +kernel
theorem dX12_q_122 : decode cX12_q 122 = .ok (.aload_n 0, 1) := by decide +kernel
theorem dX12_q_123 : decode cX12_q 123 = .ok (.dup, 1) := by decide +kernel
theorem dX12_q_124 : decode cX12_q 124 = .ok (.getfield 209, 3) := by decide +kernel
theorem dX12_q_127 : decode cX12_q 127 = .ok (.iconst 1, 1) := by decide +kernel
theorem dX12_q_128 : decode cX12_q 128 = .ok (.isub, 1) := by decide +kernel
theorem dX12_q_129 : decode cX12_q 129 = .ok (.putfield 209, 3) := by decide +kernel
theorem dX12_q_132 : decode cX12_q 132 = .ok (.goto 8, 3) := by decide +kernel
theorem dX12_q_135 : decode cX12_q 135 = .ok (.aload_n 0, 1) := by decide +kernel
theorem dX12_q_136 : decode cX12_q 136 = .ok (.iconst 1, 1) := by decide +kernel
theorem dX12_q_137 : decode cX12_q 137 = .ok (.putfield 184, 3) := by decide +kernel
theorem dX12_q_140 : decode cX12_q 140 = .ok (.return_, 1) := by decide +kernel
theorem dX12_p_0 : decode cX12_p 0 = .ok (.aload_n 0, 1) := by decide +kernel
theorem dX12_p_1 : decode cX12_p 1 = .ok (.invokevirtual 221, 3) := by decide +kernel
theorem dX12_p_4 : decode cX12_p 4 = .ok (.aload_n 0, 1) := by decide +kernel
theorem dX12_p_5 : decode cX12_p 5 = .ok (.invokevirtual 188, 3) := by decide +kernel
theorem dX12_p_8 : decode cX12_p 8 = .ok (.istore_n 1, 1) := by decide +kernel
theorem dX12_p_9 : decode cX12_p 9 = .ok (.iload_n 1, 1) := by decide +kernel
theorem dX12_p_10 : decode cX12_p 10 = .ok (.bipush 42, 2) := by decide +kernel
theorem dX12_p_12 : decode cX12_p 12 = .ok (.if_icmp .eq 15, 3) := by decide +kernel
theorem dX12_p_15 : decode cX12_p 15 = .ok (.iload_n 1, 1) := by decide +kernel
theorem dX12_p_16 : decode cX12_p 16 = .ok (.bipush 47, 2) := by decide +kernel
theorem dX12_p_18 : decode cX12_p 18 = .ok (.if_icmp .eq 9, 3) := by decide +kernel
theorem dX12_p_21 : decode cX12_p 21 = .ok (.iload_n 1, 1) := by decide +kernel
theorem dX12_p_22 : decode cX12_p 22 = .ok (.bipush 37, 2) := by decide +kernel
theorem dX12_p_24 : decode cX12_p 24 = .ok (.if_icmp .ne 33, 3) := by decide +kernel
theorem dX12_p_27 : decode cX12_p 27 = .ok (.aload_n 0, 1) := by decide +kernel
theorem dX12_p_28 : decode cX12_p 28 = .ok (.dup, 1) := by decide +kernel
theorem dX12_p_29 : decode cX12_p 29 = .ok (.getfield 180, 3) := by decide +kernel
theorem dX12_p_32 : decode cX12_p 32 = .ok (.iconst 1, 1) := by decide +kernel
theorem dX12_p_33 : decode cX12_p 33 = .ok (.iadd, 1) := by decide +kernel
theorem dX12_p_34 : decode cX12_p 34 = .ok (.putfield 180, 3) := by decide +kernel
theorem dX12_p_37 : decode cX12_p 37 = .ok (.aload_n 0, 1) := by decide +kernel
theorem dX12_p_38 : decode cX12_p 38 = .ok (.invokevirtual 221, 3) := by decide +kernel
theorem dX12_p_41 : decode cX12_p 41 = .ok (.aload_n 0, 1) := by decide +kernel
theorem dX12_p_42 : decode cX12_p 42 = .ok (.bipush (-100), 2) := by decide +kernel
theorem dX12_p_44 : decode cX12_p 44 = .ok (.iload_n 1, 1) := by decide +kernel
theorem dX12_p_45 : decode cX12_p 45 = .ok (.isub, 1) := by decide +kernel
theorem dX12_p_46 : decode cX12_p 46 = .ok (.invokevirtual 206, 3) := by decide +kernel
theorem dX12_p_49 : decode cX12_p 49 = .ok (.aload_n 0, 1) := by decide +kernel
theorem dX12_p_50 : decode cX12_p 50 = .ok (.invokevirtual 188, 3) := by decide +kernel
theorem dX12_p_53 : decode cX12_p 53 = .ok (.istore_n 1, 1) := by decide +kernel
theorem dX12_p_54 : decode cX12_p 54 = .ok (.goto (-45), 3) := by decide +kernel
theorem dX12_p_57 : decode cX12_p 57 = .ok (.return_, 1) := by decide +kernel
theorem dX12_sum_0 : decode cX12_sum 0 = .ok (.aload_n 0, 1) := by decide +kernel
theorem dX12_sum_1 : decode cX12_sum 1 = .ok (.invokevirtual 230, 3) := by decide +kernel
theorem dX12_sum_4 : decode cX12_sum 4 = .ok (.aload_n 0, 1) := by decide +kernel
theorem dX12_sum_5 : decode cX12_sum 5 = .ok (.invokevirtual 188, 3) := by decide +kernel
theorem dX12_sum_8 : decode cX12_sum 8 = .ok (.istore_n 1, 1) := by decide +kernel
theorem dX12_sum_9 : decode cX12_sum 9 = .ok (.iload_n 1, 1) := by decide +kernel
theorem dX12_sum_10 : decode cX12_sum 10 = .ok (.bipush 43, 2) := by decide +kernel
theorem dX12_sum_12 : decode cX12_sum 12 = .ok (.if_icmp .eq 9, 3) := by decide +kernel
theorem dX12_sum_15 : decode cX12_sum 15 = .ok (.iload_n 1, 1) := by decide +kernel
theorem dX12_sum_16 : decode cX12_sum 16 = .ok (.bipush 45, 2) := by decide +kernel
theorem dX12_sum_18 : decode cX12_sum 18 = .ok (.if_icmp .ne 33, 3) := by decide +kernel
theorem dX12_sum_21 : decode cX12_sum 21 = .ok (.aload_n 0, 1) := by decide +kernel
theorem dX12_sum_22 : decode cX12_sum 22 = .ok (.dup, 1) := by decide +kernel
theorem dX12_sum_23 : decode cX12_sum 23 = .ok (.getfield 180, 3) := by decide +kernel
theorem dX12_sum_26 : decode cX12_sum 26 = .ok (.iconst 1, 1) := by decide +kernel
theorem dX12_sum_27 : decode cX12_sum 27 = .ok (.iadd, 1) := by decide +kernel
theorem dX12_sum_28 : decode cX12_sum 28 = .ok (.putfield 180, 3) := by decide +kernel
theorem dX12_sum_31 : decode cX12_sum 31 = .ok (.aload_n 0, 1) := by decide +kernel
theorem dX12_sum_32 : decode cX12_sum 32 = .ok (.invokevirtual 230, 3) := by decide +kernel
theorem dX12_sum_35 : decode cX12_sum 35 = .ok (.aload_n 0, 1) := by decide +kernel
theorem dX12_sum_36 : decode cX12_sum 36 = .ok (.bipush (-100), 2) := by decide +kernel
theorem dX12_sum_38 : decode cX12_sum 38 = .ok (.iload_n 1, 1) := by decide +kernel
theorem dX12_sum_39 : decode cX12_sum 39 = .ok (.isub, 1) := by decide +kernel
theorem dX12_sum_40 : decode cX12_sum 40 = .ok (.invokevirtual 206, 3) := by decide +kernel
theorem dX12_sum_43 : decode cX12_sum 43 = .ok (.aload_n 0, 1) := by decide +kernel
theorem dX12_sum_44 : decode cX12_sum 44 = .ok (.invokevirtual 188, 3) := by decide +kernel
theorem dX12_sum_47 : decode cX12_sum 47 = .ok (.istore_n 1, 1) := by decide +kernel
theorem dX12_sum_48 : decode cX12_sum 48 = .ok (.goto (-39), 3) := by decide +kernel
theorem dX12_sum_51 : decode cX12_sum 51 = .ok (.return_, 1) := by decide +kernel
theorem dX12_b_0 : decode cX12_b 0 = .ok (.aload_n 0, 1) := by decide +kernel
theorem dX12_b_1 : decode cX12_b 1 = .ok (.invokevirtual 233, 3) := by decide +kernel
theorem dX12_b_4 : decode cX12_b 4 = .ok (.aload_n 0, 1) := by decide +kernel
theorem dX12_b_5 : decode cX12_b 5 = .ok (.invokevirtual 188, 3) := by decide +kernel
theorem dX12_b_8 : decode cX12_b 8 = .ok (.istore_n 1, 1) := by decide +kernel
theorem dX12_b_9 : decode cX12_b 9 = .ok (.iload_n 1, 1) := by decide +kernel
theorem dX12_b_10 : decode cX12_b 10 = .ok (.bipush 60, 2) := by decide +kernel
theorem dX12_b_12 : decode cX12_b 12 = .ok (.if_icmp .eq 15, 3) := by decide +kernel
theorem dX12_b_15 : decode cX12_b 15 = .ok (.iload_n 1, 1) := by decide +kernel
theorem dX12_b_16 : decode cX12_b 16 = .ok (.bipush 61, 2) := by decide +kernel
theorem dX12_b_18 : decode cX12_b 18 = .ok (.if_icmp .eq 9, 3) := by decide +kernel
theorem dX12_b_21 : decode cX12_b 21 = .ok (.iload_n 1, 1) := by decide +kernel
theorem dX12_b_22 : decode cX12_b 22 = .ok (.bipush 62, 2) := by decide +kernel
theorem dX12_b_24 : decode cX12_b 24 = .ok (.if_icmp .ne 25, 3) := by decide +kernel
theorem dX12_b_27 : decode cX12_b 27 = .ok (.aload_n 0, 1) := by decide +kernel
theorem dX12_b_28 : decode cX12_b 28 = .ok (.dup, 1) := by decide +kernel
theorem dX12_b_29 : decode cX12_b 29 = .ok (.getfield 180, 3) := by decide +kernel
theorem dX12_b_32 : decode cX12_b 32 = .ok (.iconst 1, 1) := by decide +kernel
theorem dX12_b_33 : decode cX12_b 33 = .ok (.iadd, 1) := by decide +kernel
theorem dX12_b_34 : decode cX12_b 34 = .ok (.putfield 180, 3) := by decide +kernel
theorem dX12_b_37 : decode cX12_b 37 = .ok (.aload_n 0, 1) := by decide +kernel
theorem dX12_b_38 : decode cX12_b 38 = .ok (.invokevirtual 233, 3) := by decide +kernel
theorem dX12_b_41 : decode cX12_b 41 = .ok (.aload_n 0, 1) := by decide +kernel
theorem dX12_b_42 : decode cX12_b 42 = .ok (.bipush (-100), 2) := by decide +kernel
theorem dX12_b_44 : decode cX12_b 44 = .ok (.iload_n 1, 1) := by decide +kernel
theorem dX12_b_45 : decode cX12_b 45 = .ok (.isub, 1) := by decide +kernel
theorem dX12_b_46 : decode cX12_b 46 = .ok (.invokevirtual 206, 3) := by decide +kernel
theorem dX12_b_49 : decode cX12_b 49 = .ok (.return_, 1) := by decide +kernel
theorem dX12_a_0 : decode cX12_a 0 = .ok (.aload_n 0, 1) := by decide +kernel
theorem dX12_a_1 : decode cX12_a 1 = .ok (.invokevirtual 236, 3) := by decide +kernel
theorem dX12_a_4 : decode cX12_a 4 = .ok (.aload_n 0, 1) := by decide +kernel
theorem dX12_a_5 : decode cX12_a 5 = .ok (.bipush 38, 2) := by decide +kernel
theorem dX12_a_7 : decode cX12_a 7 = .ok (.invokevirtual 227, 3) := by decide +kernel
theorem dX12_a_10 : decode cX12_a 10 = .ok (.ifCond .eq 17, 3) := by decide +kernel
theorem dX12_a_13 : decode cX12_a 13 = .ok (.aload_n 0, 1) := by decide +kernel
theorem dX12_a_14 : decode cX12_a 14 = .ok (.invokevirtual 236, 3) := by decide +kernel
theorem dX12_a_17 : decode cX12_a 17 = .ok (.aload_n 0, 1) := by decide +kernel
theorem dX12_a_18 : decode cX12_a 18 = .ok (.sipush (-138), 3) := by decide +kernel
theorem dX12_a_21 : decode cX12_a 21 = .ok (.invokevirtual 206, 3) := by decide +kernel
theorem dX12_a_24 : decode cX12_a 24 = .ok (.goto (-20), 3) := by decide +kernel
theorem dX12_a_27 : decode cX12_a 27 = .ok (.return_, 1) := by decide +kernel
theorem dX12_t_0 : decode cX12_t 0 = .ok (.aload_n 0, 1) := by decide +kernel
theorem dX12_t_1 : decode cX12_t 1 = .ok (.invokevirtual 239, 3) := by decide +kernel
theorem dX12_t_4 : decode cX12_t 4 = .ok (.aload_n 0, 1) := by decide +kernel
theorem dX12_t_5 : decode cX12_t 5 = .ok (.bipush 124, 2) := by decide +kernel
theorem dX12_t_7 : decode cX12_t 7 = .ok (.invokevirtual 227, 3) := by decide +kernel
theorem dX12_t_10 : decode cX12_t 10 = .ok (.ifCond .eq 17, 3) := by decide +kernel
theorem dX12_t_13 : decode cX12_t 13 = .ok (.aload_n 0, 1) := by decide +kernel
theorem dX12_t_14 : decode cX12_t 14 = .ok (.invokevirtual 239, 3) := by decide +kernel
theorem dX12_t_17 : decode cX12_t 17 = .ok (.aload_n 0, 1) := by decide +kernel
theorem dX12_t_18 : decode cX12_t 18 = .ok (.sipush (-224), 3) := by decide +kernel
theorem dX12_t_21 : decode cX12_t 21 = .ok (.invokevirtual 206, 3) := by decide +kernel
theorem dX12_t_24 : decode cX12_t 24 = .ok (.goto (-20), 3) := by decide +kernel
theorem dX12_t_27 : decode cX12_t 27 = .ok (.return_, 1) := by decide +kernel
theorem dX12_text_0 : decode cX12_text 0 = .ok (.iload_n 1, 1) := by decide +kernel
theorem dX12_text_1 : decode cX12_text 1 = .ok (.i2l, 1) := by decide +kernel
theorem dX12_text_2 : decode cX12_text 2 = .ok (.lconst 0, 1) := by decide +kernel
theorem dX12_text_3 : decode cX12_text 3 = .ok (.lconst 1, 1) := by decide +kernel
theorem dX12_text_4 : decode cX12_text 4 = .ok (.invokestatic 69, 3) := by decide +kernel
theorem dX12_text_7 : decode cX12_text 7 = .ok (.ifCond .ne 9, 3) := by decide +kernel
theorem dX12_text_10 : decode cX12_text 10 = .ok (.aload_n 0, 1) := by decide +kernel
theorem dX12_text_11 : decode cX12_text 11 = .ok (.iconst 1, 1) := by decide +kernel
theorem dX12_text_12 : decode cX12_text 12 = .ok (.invokevirtual 114, 3) := by decide +kernel
theorem dX12_text_15 : decode cX12_text 15 = .ok (.ireturn, 1) := by decide +kernel
theorem dX12_text_16 : decode cX12_text 16 = .ok (.aload_n 0, 1) := by decide +kernel
theorem dX12_text_17 : decode cX12_text 17 = .ok (.iconst 0, 1) := by decide +kernel
theorem dX12_text_18 : decode cX12_text 18 = .ok (.putfield 180, 3) := by decide +kernel
theorem dX12_text_21 : decode cX12_text 21 = .ok (.aload_n 0, 1) := by decide +kernel
theorem dX12_text_22 : decode cX12_text 22 = .ok (.iconst 0, 1) := by decide +kernel
theorem dX12_text_23 : decode cX12_text 23 = .ok (.putfield 209, 3) := by decide +kernel
theorem dX12_text_26 : decode cX12_text 26 = .ok (.aload_n 0, 1) := by decide +kernel
theorem dX12_text_27 : decode cX12_text 27 = .ok (.iconst 0, 1) := by decide +kernel
theorem dX12_text_28 : decode cX12_text 28 = .ok (.putfield 196, 3) := by decide +kernel
theorem dX12_text_31 : decode cX12_text 31 = .ok (.aload_n 0, 1) := by decide +kernel
theorem dX12_text_32 : decode cX12_text 32 = .ok (.iload_n 1, 1) := by decide +kernel
theorem dX12_text_33 : decode cX12_text 33 = .ok (.putfield 199, 3) := by decide +kernel
theorem dX12_text_36 : decode cX12_text 36 = .ok (.aload_n 0, 1) := by decide +kernel
theorem dX12_text_37 : decode cX12_text 37 = .ok (.iconst 0, 1) := by decide +kernel
theorem dX12_text_38 : decode cX12_text 38 = .ok (.putfield 184, 3) := by decide +kernel
theorem dX12_text_41 : decode cX12_text 41 = .ok (.aload_n 0, 1) := by decide +kernel
theorem dX12_text_42 : decode cX12_text 42 = .ok (.invokevirtual 224, 3) := by decide +kernel
theorem dX12_text_45 : decode cX12_text 45 = .ok (.aload_n 0, 1) := by decide +kernel
theorem dX12_text_46 : decode cX12_text 46 = .ok (.aload_n 0, 1) := by decide +kernel
theorem dX12_text_47 : decode cX12_text 47 = .ok (.getfield 184, 3) := by decide +kernel
theorem dX12_text_50 : decode cX12_text 50 = .ok (.ifCond .ne 16, 3) := by decide +kernel
theorem dX12_text_53 : decode cX12_text 53 = .ok (.aload_n 0, 1) := by decide +kernel
theorem dX12_text_54 : decode cX12_text 54 = .ok (.getfield 180, 3) := by decide +kernel
theorem dX12_text_57 : decode cX12_text 57 = .ok (.aload_n 0, 1) := by decide +kernel
theorem dX12_text_58 : decode cX12_text 58 = .ok (.getfield 9, 3) := by decide +kernel
theorem dX12_text_61 : decode cX12_text 61 = .ok (.iconst 4, 1) := by decide +kernel
theorem dX12_text_62 : decode cX12_text 62 = .ok (.iaload, 1) := by decide +kernel
theorem dX12_text_63 : decode cX12_text 63 = .ok (.if_icmp .ge 7, 3) := by decide +kernel
theorem dX12_text_66 : decode cX12_text 66 = .ok (.iconst 1, 1) := by decide +kernel
theorem dX12_text_67 : decode cX12_text 67 = .ok (.goto 4, 3) := by decide +kernel
theorem dX12_text_70 : decode cX12_text 70 = .ok (.iconst 0, 1) := by decide +kernel
theorem dX12_text_71 : decode cX12_text 71 = .ok (.putfield 184, 3) := by decide +kernel
theorem dX12_text_74 : decode cX12_text 74 = .ok (.aload_n 0, 1) := by decide +kernel
theorem dX12_text_75 : decode cX12_text 75 = .ok (.getfield 9, 3) := by decide +kernel
theorem dX12_text_78 : decode cX12_text 78 = .ok (.iconst 4, 1) := by decide +kernel
theorem dX12_text_79 : decode cX12_text 79 = .ok (.iconst 0, 1) := by decide +kernel
theorem dX12_text_80 : decode cX12_text 80 = .ok (.iastore, 1) := by decide +kernel
theorem dX12_text_81 : decode cX12_text 81 = .ok (.aload_n 0, 1) := by decide +kernel
theorem dX12_text_82 : decode cX12_text 82 = .ok (.getfield 184, 3) := by decide +kernel
theorem dX12_text_85 : decode cX12_text 85 = .ok (.ifCond .eq 11, 3) := by decide +kernel
theorem dX12_text_88 : decode cX12_text 88 = .ok (.bipush (-10), 2) := by decide +kernel
theorem dX12_text_90 : decode cX12_text 90 = .ok (.aload_n 0, 1) := by decide +kernel
theorem dX12_text_91 : decode cX12_text 91 = .ok (.getfield 180, 3) := by decide +kernel
theorem dX12_text_94 : decode cX12_text 94 = .ok (.isub, 1) := by decide +kernel
theorem dX12_text_95 : decode cX12_text 95 = .ok (.ireturn, 1) := by decide +kernel
theorem dX12_text_96 : decode cX12_text 96 = .ok (.aload_n 0, 1) := by decide +kernel
theorem dX12_text_97 : decode cX12_text 97 = .ok (.getfield 9, 3) := by decide +kernel
theorem dX12_text_100 : decode cX12_text 100 = .ok (.bipush 95, 2) := by decide +kernel
theorem dX12_text_102 : decode cX12_text 102 = .ok (.iload_n 1, 1) := by decide +kernel
theorem dX12_text_103 : decode cX12_text 103 = .ok (.iadd, 1) := by decide +kernel
theorem dX12_text_104 : decode cX12_text 104 = .ok (.aload_n 0, 1) := by decide +kernel
theorem dX12_text_105 : decode cX12_text 105 = .ok (.getfield 196, 3) := by decide +kernel
theorem dX12_text_108 : decode cX12_text 108 = .ok (.iastore, 1) := by decide +kernel
theorem dX12_text_109 : decode cX12_text 109 = .ok (.iconst 0, 1) := by decide +kernel
theorem dX12_text_110 : decode cX12_text 110 = .ok (.istore_n 2, 1) := by decide +kernel
theorem dX12_text_111 : decode cX12_text 111 = .ok (.iload_n 2, 1) := by decide +kernel
theorem dX12_text_112 : decode cX12_text 112 = .ok (.aload_n 0, 1) := by decide +kernel
theorem dX12_text_113 : decode cX12_text 113 = .ok (.getfield 196, 3) := by decide +kernel
theorem dX12_text_116 : decode cX12_text 116 = .ok (.if_icmp .ge 29, 3) := by decide +kernel
theorem dX12_text_119 : decode cX12_text 119 = .ok (.aload_n 0, 1) := by decide +kernel
theorem dX12_text_120 : decode cX12_text 120 = .ok (.getfield 9, 3) := by decide +kernel
theorem dX12_text_123 : decode cX12_text 123 = .ok (.bipush 97, 2) := by decide +kernel
theorem dX12_text_125 : decode cX12_text 125 = .ok (.bipush 50, 2) := by decide +kernel
theorem dX12_text_127 : decode cX12_text 127 = .ok (.iload_n 1, 1) := by decide +kernel
theorem dX12_text_128 : decode cX12_text 128 = .ok (.imul, 1) := by decide +kernel
theorem dX12_text_129 : decode cX12_text 129 = .ok (.iadd, 1) := by decide +kernel
theorem dX12_text_130 : decode cX12_text 130 = .ok (.iload_n 2, 1) := by decide +kernel
theorem dX12_text_131 : decode cX12_text 131 = .ok (.iadd, 1) := by decide +kernel
theorem dX12_text_132 : decode cX12_text 132 = .ok (.aload_n 0, 1) := by decide +kernel
theorem dX12_text_133 : decode cX12_text 133 = .ok (.getfield 28, 3) := by decide +kernel
theorem dX12_text_136 : decode cX12_text 136 = .ok (.iload_n 2, 1) := by decide +kernel
theorem dX12_text_137 : decode cX12_text 137 = .ok (.iaload, 1) := by decide +kernel
theorem dX12_text_138 : decode cX12_text 138 = .ok (.iastore, 1) := by decide +kernel
theorem dX12_text_139 : decode cX12_text 139 = .ok (.iinc 2 1, 3) := by decide +kernel
theorem dX12_text_142 : decode cX12_text 142 = .ok (.goto (-31), 3) := by decide +kernel
theorem dX12_text_145 : decode cX12_text 145 = .ok (.iconst 1, 1) := by decide +kernel
theorem dX12_text_146 : decode cX12_text 146 = .ok (.ireturn, 1) := by decide +kernel
theorem dX12_law_0 : decode cX12_law 0 = .ok (.iload_n 1, 1) := by decide +kernel
theorem dX12_law_1 : decode cX12_law 1 = .ok (.i2l, 1) := by decide +kernel
theorem dX12_law_2 : decode cX12_law 2 = .ok (.lconst 0, 1) := by decide +kernel
theorem dX12_law_3 : decode cX12_law 3 = .ok (.lconst 1, 1) := by decide +kernel
theorem dX12_law_4 : decode cX12_law 4 = .ok (.invokestatic 69, 3) := by decide +kernel
theorem dX12_law_7 : decode cX12_law 7 = .ok (.ifCond .eq 15, 3) := by decide +kernel
theorem dX12_law_10 : decode cX12_law 10 = .ok (.aload_n 0, 1) := by decide +kernel
theorem dX12_law_11 : decode cX12_law 11 = .ok (.iload_n 1, 1) := by decide +kernel
theorem dX12_law_12 : decode cX12_law 12 = .ok (.iload_n 2, 1) := by decide +kernel
theorem dX12_law_13 : decode cX12_law 13 = .ok (.iload_n 3, 1) := by decide +kernel
theorem dX12_law_14 : decode cX12_law 14 = .ok (.iload 4, 2) := by decide +kernel
theorem dX12_law_16 : decode cX12_law 16 = .ok (.invokevirtual 101, 3) := by decide +kernel
theorem dX12_law_19 : decode cX12_law 19 = .ok (.goto 8, 3) := by decide +kernel
theorem dX12_law_22 : decode cX12_law 22 = .ok (.aload_n 0, 1) := by decide +kernel
theorem dX12_law_23 : decode cX12_law 23 = .ok (.iconst 1, 1) := by decide +kernel
theorem dX12_law_24 : decode cX12_law 24 = .ok (.invokevirtual 114, 3) := by decide +kernel
theorem dX12_law_27 : decode cX12_law 27 = .ok (.ireturn, 1) := by decide +kernel
theorem dX12_sours_0 : decode cX12_sours 0 = .ok (.aload_n 0, 1) := by decide +kernel
theorem dX12_sours_1 : decode cX12_sours 1 = .ok (.iload_n 1, 1) := by decide +kernel
theorem dX12_sours_2 : decode cX12_sours 2 = .ok (.iconst 5, 1) := by decide +kernel
theorem dX12_sours_3 : decode cX12_sours 3 = .ok (.aload_n 0, 1) := by decide +kernel
theorem dX12_sours_4 : decode cX12_sours 4 = .ok (.iload_n 1, 1) := by decide +kernel
theorem dX12_sours_5 : decode cX12_sours 5 = .ok (.iconst 5, 1) := by decide +kernel
theorem dX12_sours_6 : decode cX12_sours 6 = .ok (.invokevirtual 79, 3) := by decide +kernel
theorem dX12_sours_9 : decode cX12_sours 9 = .ok (.iload_n 2, 1) := by decide +kernel
theorem dX12_sours_10 : decode cX12_sours 10 = .ok (.iadd, 1) := by decide +kernel
theorem dX12_sours_11 : decode cX12_sours 11 = .ok (.iconst 0, 1) := by decide +kernel
theorem dX12_sours_12 : decode cX12_sours 12 = .ok (.sipush 9999, 3) := by decide +kernel
theorem dX12_sours_15 : decode cX12_sours 15 = .ok (.invokestatic 95, 3) := by decide +kernel
theorem dX12_sours_18 : decode cX12_sours 18 = .ok (.invokevirtual 140, 3) := by decide +kernel
theorem dX12_sours_21 : decode cX12_sours 21 = .ok (.return_, 1) := by decide +kernel
theorem dX12_goesOn_0 : decode cX12_goesOn 0 = .ok (.aload_n 0, 1) := by decide +kernel
theorem dX12_goesOn_1 : decode cX12_goesOn 1 = .ok (.iload_n 1, 1) := by decide +kernel
theorem dX12_goesOn_2 : decode cX12_goesOn 2 = .ok (.bipush 8, 2) := by decide +kernel
theorem dX12_goesOn_4 : decode cX12_goesOn 4 = .ok (.invokevirtual 79, 3) := by decide +kernel
theorem dX12_goesOn_7 : decode cX12_goesOn 7 = .ok (.iconst 1, 1) := by decide +kernel
theorem dX12_goesOn_8 : decode cX12_goesOn 8 = .ok (.if_icmp .eq 23, 3) := by decide +kernel
theorem dX12_goesOn_11 : decode cX12_goesOn 11 = .ok (.aload_n 0, 1) := by decide +kernel
theorem dX12_goesOn_12 : decode cX12_goesOn 12 = .ok (.iload_n 1, 1) := by decide +kernel
theorem dX12_goesOn_13 : decode cX12_goesOn 13 = .ok (.iconst 3, 1) := by decide +kernel
theorem dX12_goesOn_14 : decode cX12_goesOn 14 = .ok (.invokevirtual 79, 3) := by decide +kernel
theorem dX12_goesOn_17 : decode cX12_goesOn 17 = .ok (.iconst 3, 1) := by decide +kernel
theorem dX12_goesOn_18 : decode cX12_goesOn 18 = .ok (.if_icmp .eq 13, 3) := by decide +kernel
theorem dX12_goesOn_21 : decode cX12_goesOn 21 = .ok (.aload_n 0, 1) := by decide +kernel
theorem dX12_goesOn_22 : decode cX12_goesOn 22 = .ok (.iload_n 1, 1) := by decide +kernel
theorem dX12_goesOn_23 : decode cX12_goesOn 23 = .ok (.iconst 3, 1) := by decide +kernel
theorem dX12_goesOn_24 : decode cX12_goesOn 24 = .ok (.invokevirtual 79, 3) := by decide +kernel
theorem dX12_goesOn_27 : decode cX12_goesOn 27 = .ok (.iconst 1, 1) := by decide +kernel
theorem dX12_goesOn_28 : decode cX12_goesOn 28 = .ok (.if_icmp .ne 4, 3) := by decide +kernel
theorem dX12_goesOn_31 : decode cX12_goesOn 31 = .ok (.return_, 1) := by decide +kernel
theorem dX12_goesOn_32 : decode cX12_goesOn 32 = .ok (.aload_n 0, 1) := by decide +kernel
theorem dX12_goesOn_33 : decode cX12_goesOn 33 = .ok (.iload_n 1, 1) := by decide +kernel
theorem dX12_goesOn_34 : decode cX12_goesOn 34 = .ok (.iconst 0, 1) := by decide +kernel
theorem dX12_goesOn_35 : decode cX12_goesOn 35 = .ok (.invokevirtual 79, 3) := by decide +kernel
theorem dX12_goesOn_38 : decode cX12_goesOn 38 = .ok (.istore_n 2, 1) := by decide +kernel
theorem dX12_goesOn_39 : decode cX12_goesOn 39 = .ok (.aload_n 0, 1) := by decide +kernel
theorem dX12_goesOn_40 : decode cX12_goesOn 40 = .ok (.iload_n 1, 1) := by decide +kernel
theorem dX12_goesOn_41 : decode cX12_goesOn 41 = .ok (.iconst 1, 1) := by decide +kernel
theorem dX12_goesOn_42 : decode cX12_goesOn 42 = .ok (.invokevirtual 79, 3) := by decide +kernel
theorem dX12_goesOn_45 : decode cX12_goesOn 45 = .ok (.istore_n 3, 1) := by decide +kernel
theorem dX12_goesOn_46 : decode cX12_goesOn 46 = .ok (.aload_n 0, 1) := by decide +kernel
theorem dX12_goesOn_47 : decode cX12_goesOn 47 = .ok (.iload_n 1, 1) := by decide +kernel
theorem dX12_goesOn_48 : decode cX12_goesOn 48 = .ok (.iload_n 2, 1) := by decide +kernel
theorem dX12_goesOn_49 : decode cX12_goesOn 49 = .ok (.iload_n 3, 1) := by decide +kernel
theorem dX12_goesOn_50 : decode cX12_goesOn 50 = .ok (.aload_n 0, 1) := by decide +kernel
theorem dX12_goesOn_51 : decode cX12_goesOn 51 = .ok (.aload_n 0, 1) := by decide +kernel
theorem dX12_goesOn_52 : decode cX12_goesOn 52 = .ok (.iload_n 1, 1) := by decide +kernel
theorem dX12_goesOn_53 : decode cX12_goesOn 53 = .ok (.iconst 2, 1) := by decide +kernel
theorem dX12_goesOn_54 : decode cX12_goesOn 54 = .ok (.invokevirtual 79, 3) := by decide +kernel
theorem dX12_goesOn_57 : decode cX12_goesOn 57 = .ok (.aload_n 0, 1) := by decide +kernel
theorem dX12_goesOn_58 : decode cX12_goesOn 58 = .ok (.getfield 9, 3) := by decide +kernel
theorem dX12_goesOn_61 : decode cX12_goesOn 61 = .ok (.iconst 0, 1) := by decide +kernel
theorem dX12_goesOn_62 : decode cX12_goesOn 62 = .ok (.iaload, 1) := by decide +kernel
theorem dX12_goesOn_63 : decode cX12_goesOn 63 = .ok (.invokevirtual 122, 3) := by decide +kernel
theorem dX12_goesOn_66 : decode cX12_goesOn 66 = .ok (.invokestatic 242, 3) := by decide +kernel
theorem dX12_goesOn_69 : decode cX12_goesOn 69 = .ok (.invokevirtual 245, 3) := by decide +kernel
theorem dX12_goesOn_72 : decode cX12_goesOn 72 = .ok (.aload_n 0, 1) := by decide +kernel
theorem dX12_goesOn_73 : decode cX12_goesOn 73 = .ok (.iload_n 1, 1) := by decide +kernel
theorem dX12_goesOn_74 : decode cX12_goesOn 74 = .ok (.iconst 3, 1) := by decide +kernel
theorem dX12_goesOn_75 : decode cX12_goesOn 75 = .ok (.invokevirtual 79, 3) := by decide +kernel
theorem dX12_goesOn_78 : decode cX12_goesOn 78 = .ok (.iconst 2, 1) := by decide +kernel
theorem dX12_goesOn_79 : decode cX12_goesOn 79 = .ok (.if_icmp .ne 69, 3) := by decide +kernel
theorem dX12_goesOn_82 : decode cX12_goesOn 82 = .ok (.aload_n 0, 1) := by decide +kernel
theorem dX12_goesOn_83 : decode cX12_goesOn 83 = .ok (.iload_n 1, 1) := by decide +kernel
theorem dX12_goesOn_84 : decode cX12_goesOn 84 = .ok (.bipush 6, 2) := by decide +kernel
theorem dX12_goesOn_86 : decode cX12_goesOn 86 = .ok (.aload_n 0, 1) := by decide +kernel
theorem dX12_goesOn_87 : decode cX12_goesOn 87 = .ok (.iload_n 1, 1) := by decide +kernel
theorem dX12_goesOn_88 : decode cX12_goesOn 88 = .ok (.bipush 6, 2) := by decide +kernel
theorem dX12_goesOn_90 : decode cX12_goesOn 90 = .ok (.invokevirtual 79, 3) := by decide +kernel
theorem dX12_goesOn_93 : decode cX12_goesOn 93 = .ok (.iload_n 2, 1) := by decide +kernel
theorem dX12_goesOn_94 : decode cX12_goesOn 94 = .ok (.iload_n 3, 1) := by decide +kernel
theorem dX12_goesOn_95 : decode cX12_goesOn 95 = .ok (.aload_n 0, 1) := by decide +kernel
theorem dX12_goesOn_96 : decode cX12_goesOn 96 = .ok (.aload_n 0, 1) := by decide +kernel
theorem dX12_goesOn_97 : decode cX12_goesOn 97 = .ok (.iload_n 1, 1) := by decide +kernel
theorem dX12_goesOn_98 : decode cX12_goesOn 98 = .ok (.bipush 7, 2) := by decide +kernel
theorem dX12_goesOn_100 : decode cX12_goesOn 100 = .ok (.invokevirtual 79, 3) := by decide +kernel
theorem dX12_goesOn_103 : decode cX12_goesOn 103 = .ok (.invokevirtual 248, 3) := by decide +kernel
theorem dX12_goesOn_106 : decode cX12_goesOn 106 = .ok (.invokestatic 251, 3) := by decide +kernel
theorem dX12_goesOn_109 : decode cX12_goesOn 109 = .ok (.iadd, 1) := by decide +kernel
theorem dX12_goesOn_110 : decode cX12_goesOn 110 = .ok (.iconst 0, 1) := by decide +kernel
theorem dX12_goesOn_111 : decode cX12_goesOn 111 = .ok (.sipush 9999, 3) := by decide +kernel
theorem dX12_goesOn_114 : decode cX12_goesOn 114 = .ok (.invokestatic 95, 3) := by decide +kernel
theorem dX12_goesOn_117 : decode cX12_goesOn 117 = .ok (.invokevirtual 140, 3) := by decide +kernel
theorem dX12_goesOn_120 : decode cX12_goesOn 120 = .ok (.aload_n 0, 1) := by decide +kernel
theorem dX12_goesOn_121 : decode cX12_goesOn 121 = .ok (.iload_n 1, 1) := by decide +kernel
theorem dX12_goesOn_122 : decode cX12_goesOn 122 = .ok (.iconst 4, 1) := by decide +kernel
theorem dX12_goesOn_123 : decode cX12_goesOn 123 = .ok (.aload_n 0, 1) := by decide +kernel
theorem dX12_goesOn_124 : decode cX12_goesOn 124 = .ok (.iload_n 1, 1) := by decide +kernel
theorem dX12_goesOn_125 : decode cX12_goesOn 125 = .ok (.iconst 4, 1) := by decide +kernel
theorem dX12_goesOn_126 : decode cX12_goesOn 126 = .ok (.invokevirtual 79, 3) := by decide +kernel
theorem dX12_goesOn_129 : decode cX12_goesOn 129 = .ok (.iconst 1, 1) := by decide +kernel
theorem dX12_goesOn_130 : decode cX12_goesOn 130 = .ok (.isub, 1) := by decide +kernel
theorem dX12_goesOn_131 : decode cX12_goesOn 131 = .ok (.invokevirtual 140, 3) := by decide +kernel
theorem dX12_goesOn_134 : decode cX12_goesOn 134 = .ok (.aload_n 0, 1) := by decide +kernel
theorem dX12_goesOn_135 : decode cX12_goesOn 135 = .ok (.iload_n 1, 1) := by decide +kernel
theorem dX12_goesOn_136 : decode cX12_goesOn 136 = .ok (.iconst 4, 1) := by decide +kernel
theorem dX12_goesOn_137 : decode cX12_goesOn 137 = .ok (.invokevirtual 79, 3) := by decide +kernel
theorem dX12_goesOn_140 : decode cX12_goesOn 140 = .ok (.ifCond .ne 8, 3) := by decide +kernel
theorem dX12_goesOn_143 : decode cX12_goesOn 143 = .ok (.aload_n 0, 1) := by decide +kernel
theorem dX12_goesOn_144 : decode cX12_goesOn 144 = .ok (.iload_n 1, 1) := by decide +kernel
theorem dX12_goesOn_145 : decode cX12_goesOn 145 = .ok (.invokevirtual 254, 3) := by decide +kernel
theorem dX12_goesOn_148 : decode cX12_goesOn 148 = .ok (.return_, 1) := by decide +kernel
theorem dX12_comes_0 : decode cX12_comes 0 = .ok (.aload_n 0, 1) := by decide +kernel
theorem dX12_comes_1 : decode cX12_comes 1 = .ok (.iload_n 1, 1) := by decide +kernel
theorem dX12_comes_2 : decode cX12_comes 2 = .ok (.iconst 2, 1) := by decide +kernel
theorem dX12_comes_3 : decode cX12_comes 3 = .ok (.aload_n 0, 1) := by decide +kernel
theorem dX12_comes_4 : decode cX12_comes 4 = .ok (.iload_n 1, 1) := by decide +kernel
theorem dX12_comes_5 : decode cX12_comes 5 = .ok (.iconst 2, 1) := by decide +kernel
theorem dX12_comes_6 : decode cX12_comes 6 = .ok (.invokevirtual 79, 3) := by decide +kernel
theorem dX12_comes_9 : decode cX12_comes 9 = .ok (.iconst 1, 1) := by decide +kernel
theorem dX12_comes_10 : decode cX12_comes 10 = .ok (.iadd, 1) := by decide +kernel
theorem dX12_comes_11 : decode cX12_comes 11 = .ok (.invokevirtual 140, 3) := by decide +kernel
theorem dX12_comes_14 : decode cX12_comes 14 = .ok (.aload_n 0, 1) := by decide +kernel
theorem dX12_comes_15 : decode cX12_comes 15 = .ok (.iload_n 1, 1) := by decide +kernel
theorem dX12_comes_16 : decode cX12_comes 16 = .ok (.iconst 2, 1) := by decide +kernel
theorem dX12_comes_17 : decode cX12_comes 17 = .ok (.invokevirtual 79, 3) := by decide +kernel
theorem dX12_comes_20 : decode cX12_comes 20 = .ok (.bipush 9, 2) := by decide +kernel
theorem dX12_comes_22 : decode cX12_comes 22 = .ok (.if_icmp .ne 7, 3) := by decide +kernel
theorem dX12_comes_25 : decode cX12_comes 25 = .ok (.iconst 1, 1) := by decide +kernel
theorem dX12_comes_26 : decode cX12_comes 26 = .ok (.goto 4, 3) := by decide +kernel
theorem dX12_comes_29 : decode cX12_comes 29 = .ok (.iconst 0, 1) := by decide +kernel
theorem dX12_comes_30 : decode cX12_comes 30 = .ok (.istore_n 2, 1) := by decide +kernel
theorem dX12_comes_31 : decode cX12_comes 31 = .ok (.aload_n 0, 1) := by decide +kernel
theorem dX12_comes_32 : decode cX12_comes 32 = .ok (.iload_n 1, 1) := by decide +kernel
theorem dX12_comes_33 : decode cX12_comes 33 = .ok (.iconst 3, 1) := by decide +kernel
theorem dX12_comes_34 : decode cX12_comes 34 = .ok (.iload_n 2, 1) := by decide +kernel
theorem dX12_comes_35 : decode cX12_comes 35 = .ok (.ifCond .eq 7, 3) := by decide +kernel
theorem dX12_comes_38 : decode cX12_comes 38 = .ok (.iconst 3, 1) := by decide +kernel
theorem dX12_comes_39 : decode cX12_comes 39 = .ok (.goto 4, 3) := by decide +kernel
theorem dX12_comes_42 : decode cX12_comes 42 = .ok (.iconst 0, 1) := by decide +kernel
theorem dX12_comes_43 : decode cX12_comes 43 = .ok (.invokevirtual 140, 3) := by decide +kernel
theorem dX12_comes_46 : decode cX12_comes 46 = .ok (.iload_n 2, 1) := by decide +kernel
theorem dX12_comes_47 : decode cX12_comes 47 = .ok (.ifCond .eq 25, 3) := by decide +kernel
theorem dX12_comes_50 : decode cX12_comes 50 = .ok (.aload_n 0, 1) := by decide +kernel
theorem dX12_comes_51 : decode cX12_comes 51 = .ok (.aload_n 0, 1) := by decide +kernel
theorem dX12_comes_52 : decode cX12_comes 52 = .ok (.iload_n 1, 1) := by decide +kernel
theorem dX12_comes_53 : decode cX12_comes 53 = .ok (.aload_n 0, 1) := by decide +kernel
theorem dX12_comes_54 : decode cX12_comes 54 = .ok (.iload_n 1, 1) := by decide +kernel
theorem dX12_comes_55 : decode cX12_comes 55 = .ok (.iconst 5, 1) := by decide +kernel
theorem dX12_comes_56 : decode cX12_comes 56 = .ok (.invokevirtual 79, 3) := by decide +kernel
theorem dX12_comes_59 : decode cX12_comes 59 = .ok (.aload_n 0, 1) := by decide +kernel
theorem dX12_comes_60 : decode cX12_comes 60 = .ok (.iload_n 1, 1) := by decide +kernel
theorem dX12_comes_61 : decode cX12_comes 61 = .ok (.bipush 6, 2) := by decide +kernel
theorem dX12_comes_63 : decode cX12_comes 63 = .ok (.invokevirtual 79, 3) := by decide +kernel
theorem dX12_comes_66 : decode cX12_comes 66 = .ok (.invokevirtual 257, 3) := by decide +kernel
theorem dX12_comes_69 : decode cX12_comes 69 = .ok (.invokevirtual 175, 3) := by decide +kernel
theorem dX12_comes_72 : decode cX12_comes 72 = .ok (.return_, 1) := by decide +kernel
theorem dX12_aQuarter_0 : decode cX12_aQuarter 0 = .ok (.iconst 0, 1) := by decide +kernel
theorem dX12_aQuarter_1 : decode cX12_aQuarter 1 = .ok (.istore_n 1, 1) := by decide +kernel
theorem dX12_aQuarter_2 : decode cX12_aQuarter 2 = .ok (.iload_n 1, 1) := by decide +kernel
theorem dX12_aQuarter_3 : decode cX12_aQuarter 3 = .ok (.aload_n 0, 1) := by decide +kernel
theorem dX12_aQuarter_4 : decode cX12_aQuarter 4 = .ok (.getfield 9, 3) := by decide +kernel
theorem dX12_aQuarter_7 : decode cX12_aQuarter 7 = .ok (.iconst 3, 1) := by decide +kernel
theorem dX12_aQuarter_8 : decode cX12_aQuarter 8 = .ok (.iaload, 1) := by decide +kernel
theorem dX12_aQuarter_9 : decode cX12_aQuarter 9 = .ok (.if_icmp .ge 14, 3) := by decide +kernel
theorem dX12_aQuarter_12 : decode cX12_aQuarter 12 = .ok (.aload_n 0, 1) := by decide +kernel
theorem dX12_aQuarter_13 : decode cX12_aQuarter 13 = .ok (.iload_n 1, 1) := by decide +kernel
theorem dX12_aQuarter_14 : decode cX12_aQuarter 14 = .ok (.invokevirtual 260, 3) := by decide +kernel
theorem dX12_aQuarter_17 : decode cX12_aQuarter 17 = .ok (.iinc 1 1, 3) := by decide +kernel
theorem dX12_aQuarter_20 : decode cX12_aQuarter 20 = .ok (.goto (-18), 3) := by decide +kernel
theorem dX12_aQuarter_23 : decode cX12_aQuarter 23 = .ok (.aload_n 0, 1) := by decide +kernel
theorem dX12_aQuarter_24 : decode cX12_aQuarter 24 = .ok (.getfield 9, 3) := by decide +kernel
theorem dX12_aQuarter_27 : decode cX12_aQuarter 27 = .ok (.iconst 0, 1) := by decide +kernel
theorem dX12_aQuarter_28 : decode cX12_aQuarter 28 = .ok (.dup2, 1) := by decide +kernel
theorem dX12_aQuarter_29 : decode cX12_aQuarter 29 = .ok (.iaload, 1) := by decide +kernel
theorem dX12_aQuarter_30 : decode cX12_aQuarter 30 = .ok (.iconst 1, 1) := by decide +kernel
theorem dX12_aQuarter_31 : decode cX12_aQuarter 31 = .ok (.iadd, 1) := by decide +kernel
theorem dX12_aQuarter_32 : decode cX12_aQuarter 32 = .ok (.iastore, 1) := by decide +kernel
theorem dX12_aQuarter_33 : decode cX12_aQuarter 33 = .ok (.return_, 1) := by decide +kernel
theorem dX12_quarters_0 : decode cX12_quarters 0 = .ok (.iload_n 1, 1) := by decide +kernel
theorem dX12_quarters_1 : decode cX12_quarters 1 = .ok (.i2l, 1) := by decide +kernel
theorem dX12_quarters_2 : decode cX12_quarters 2 = .ok (.lconst 1, 1) := by decide +kernel
theorem dX12_quarters_3 : decode cX12_quarters 3 = .ok (.ldc2_w 263, 3) := by decide +kernel
theorem dX12_quarters_6 : decode cX12_quarters 6 = .ok (.invokestatic 69, 3) := by decide +kernel
theorem dX12_quarters_9 : decode cX12_quarters 9 = .ok (.ifCond .ne 9, 3) := by decide +kernel
theorem dX12_quarters_12 : decode cX12_quarters 12 = .ok (.aload_n 0, 1) := by decide +kernel
theorem dX12_quarters_13 : decode cX12_quarters 13 = .ok (.iconst 1, 1) := by decide +kernel
theorem dX12_quarters_14 : decode cX12_quarters 14 = .ok (.invokevirtual 114, 3) := by decide +kernel
theorem dX12_quarters_17 : decode cX12_quarters 17 = .ok (.ireturn, 1) := by decide +kernel
theorem dX12_quarters_18 : decode cX12_quarters 18 = .ok (.aload_n 0, 1) := by decide +kernel
theorem dX12_quarters_19 : decode cX12_quarters 19 = .ok (.getfield 9, 3) := by decide +kernel
theorem dX12_quarters_22 : decode cX12_quarters 22 = .ok (.iconst 0, 1) := by decide +kernel
theorem dX12_quarters_23 : decode cX12_quarters 23 = .ok (.iaload, 1) := by decide +kernel
theorem dX12_quarters_24 : decode cX12_quarters 24 = .ok (.iload_n 1, 1) := by decide +kernel
theorem dX12_quarters_25 : decode cX12_quarters 25 = .ok (.iadd, 1) := by decide +kernel
theorem dX12_quarters_26 : decode cX12_quarters 26 = .ok (.sipush 9999, 3) := by decide +kernel
theorem dX12_quarters_29 : decode cX12_quarters 29 = .ok (.if_icmp .le 9, 3) := by decide +kernel
theorem dX12_quarters_32 : decode cX12_quarters 32 = .ok (.aload_n 0, 1) := by decide +kernel
theorem dX12_quarters_33 : decode cX12_quarters 33 = .ok (.iconst 3, 1) := by decide +kernel
theorem dX12_quarters_34 : decode cX12_quarters 34 = .ok (.invokevirtual 114, 3) := by decide +kernel
theorem dX12_quarters_37 : decode cX12_quarters 37 = .ok (.ireturn, 1) := by decide +kernel
theorem dX12_quarters_38 : decode cX12_quarters 38 = .ok (.iconst 0, 1) := by decide +kernel
theorem dX12_quarters_39 : decode cX12_quarters 39 = .ok (.istore_n 2, 1) := by decide +kernel
theorem dX12_quarters_40 : decode cX12_quarters 40 = .ok (.iload_n 2, 1) := by decide +kernel
theorem dX12_quarters_41 : decode cX12_quarters 41 = .ok (.iload_n 1, 1) := by decide +kernel
theorem dX12_quarters_42 : decode cX12_quarters 42 = .ok (.if_icmp .ge 13, 3) := by decide +kernel
theorem dX12_quarters_45 : decode cX12_quarters 45 = .ok (.aload_n 0, 1) := by decide +kernel
theorem dX12_quarters_46 : decode cX12_quarters 46 = .ok (.invokevirtual 265, 3) := by decide +kernel
theorem dX12_quarters_49 : decode cX12_quarters 49 = .ok (.iinc 2 1, 3) := by decide +kernel
theorem dX12_quarters_52 : decode cX12_quarters 52 = .ok (.goto (-12), 3) := by decide +kernel
theorem dX12_quarters_55 : decode cX12_quarters 55 = .ok (.aload_n 0, 1) := by decide +kernel
theorem dX12_quarters_56 : decode cX12_quarters 56 = .ok (.getfield 9, 3) := by decide +kernel
theorem dX12_quarters_59 : decode cX12_quarters 59 = .ok (.iconst 1, 1) := by decide +kernel
theorem dX12_quarters_60 : decode cX12_quarters 60 = .ok (.iaload, 1) := by decide +kernel
theorem dX12_quarters_61 : decode cX12_quarters 61 = .ok (.ireturn, 1) := by decide +kernel
theorem dX12_thunders_0 : decode cX12_thunders 0 = .ok (.iconst 0, 1) := by decide +kernel
theorem dX12_thunders_1 : decode cX12_thunders 1 = .ok (.istore_n 1, 1) := by decide +kernel
theorem dX12_thunders_2 : decode cX12_thunders 2 = .ok (.iconst 0, 1) := by decide +kernel
theorem dX12_thunders_3 : decode cX12_thunders 3 = .ok (.istore_n 2, 1) := by decide +kernel
theorem dX12_thunders_4 : decode cX12_thunders 4 = .ok (.iload_n 2, 1) := by decide +kernel
theorem dX12_thunders_5 : decode cX12_thunders 5 = .ok (.aload_n 0, 1) := by decide +kernel
theorem dX12_thunders_6 : decode cX12_thunders 6 = .ok (.getfield 9, 3) := by decide +kernel
theorem dX12_thunders_9 : decode cX12_thunders 9 = .ok (.iconst 3, 1) := by decide +kernel
theorem dX12_thunders_10 : decode cX12_thunders 10 = .ok (.iaload, 1) := by decide +kernel
theorem dX12_thunders_11 : decode cX12_thunders 11 = .ok (.if_icmp .ge 39, 3) := by decide +kernel
theorem dX12_thunders_14 : decode cX12_thunders 14 = .ok (.aload_n 0, 1) := by decide +kernel
theorem dX12_thunders_15 : decode cX12_thunders 15 = .ok (.iload_n 2, 1) := by decide +kernel
theorem dX12_thunders_16 : decode cX12_thunders 16 = .ok (.bipush 8, 2) := by decide +kernel
theorem dX12_thunders_18 : decode cX12_thunders 18 = .ok (.invokevirtual 79, 3) := by decide +kernel
theorem dX12_thunders_21 : decode cX12_thunders 21 = .ok (.ifCond .ne 23, 3) := by decide +kernel
theorem dX12_thunders_24 : decode cX12_thunders 24 = .ok (.aload_n 0, 1) := by decide +kernel
theorem dX12_thunders_25 : decode cX12_thunders 25 = .ok (.iload_n 2, 1) := by decide +kernel
theorem dX12_thunders_26 : decode cX12_thunders 26 = .ok (.iconst 3, 1) := by decide +kernel
theorem dX12_thunders_27 : decode cX12_thunders 27 = .ok (.invokevirtual 79, 3) := by decide +kernel
theorem dX12_thunders_30 : decode cX12_thunders 30 = .ok (.iconst 3, 1) := by decide +kernel
theorem dX12_thunders_31 : decode cX12_thunders 31 = .ok (.if_icmp .eq 13, 3) := by decide +kernel
theorem dX12_thunders_34 : decode cX12_thunders 34 = .ok (.aload_n 0, 1) := by decide +kernel
theorem dX12_thunders_35 : decode cX12_thunders 35 = .ok (.iload_n 2, 1) := by decide +kernel
theorem dX12_thunders_36 : decode cX12_thunders 36 = .ok (.bipush 30, 2) := by decide +kernel
theorem dX12_thunders_38 : decode cX12_thunders 38 = .ok (.invokevirtual 245, 3) := by decide +kernel
theorem dX12_thunders_41 : decode cX12_thunders 41 = .ok (.iinc 1 1, 3) := by decide +kernel
theorem dX12_thunders_44 : decode cX12_thunders 44 = .ok (.iinc 2 1, 3) := by decide +kernel
theorem dX12_thunders_47 : decode cX12_thunders 47 = .ok (.goto (-43), 3) := by decide +kernel
theorem dX12_thunders_50 : decode cX12_thunders 50 = .ok (.iload_n 1, 1) := by decide +kernel
theorem dX12_thunders_51 : decode cX12_thunders 51 = .ok (.ireturn, 1) := by decide +kernel
theorem dX12_draw_0 : decode cX12_draw 0 = .ok (.aload_n 0, 1) := by decide +kernel
theorem dX12_draw_1 : decode cX12_draw 1 = .ok (.getfield 9, 3) := by decide +kernel
theorem dX12_draw_4 : decode cX12_draw 4 = .ok (.iconst 2, 1) := by decide +kernel
theorem dX12_draw_5 : decode cX12_draw 5 = .ok (.aload_n 0, 1) := by decide +kernel
theorem dX12_draw_6 : decode cX12_draw 6 = .ok (.getfield 9, 3) := by decide +kernel
theorem dX12_draw_9 : decode cX12_draw 9 = .ok (.iconst 2, 1) := by decide +kernel
theorem dX12_draw_10 : decode cX12_draw 10 = .ok (.iaload, 1) := by decide +kernel
theorem dX12_draw_11 : decode cX12_draw 11 = .ok (.ldc_w 268, 3) := by decide +kernel
theorem dX12_draw_14 : decode cX12_draw 14 = .ok (.imul, 1) := by decide +kernel
theorem dX12_draw_15 : decode cX12_draw 15 = .ok (.sipush 12345, 3) := by decide +kernel
theorem dX12_draw_18 : decode cX12_draw 18 = .ok (.iadd, 1) := by decide +kernel
theorem dX12_draw_19 : decode cX12_draw 19 = .ok (.iastore, 1) := by decide +kernel
theorem dX12_draw_20 : decode cX12_draw 20 = .ok (.aload_n 0, 1) := by decide +kernel
theorem dX12_draw_21 : decode cX12_draw 21 = .ok (.getfield 9, 3) := by decide +kernel
theorem dX12_draw_24 : decode cX12_draw 24 = .ok (.iconst 2, 1) := by decide +kernel
theorem dX12_draw_25 : decode cX12_draw 25 = .ok (.iaload, 1) := by decide +kernel
theorem dX12_draw_26 : decode cX12_draw 26 = .ok (.bipush 8, 2) := by decide +kernel
theorem dX12_draw_28 : decode cX12_draw 28 = .ok (.iushr, 1) := by decide +kernel
theorem dX12_draw_29 : decode cX12_draw 29 = .ok (.ireturn, 1) := by decide +kernel
theorem dX12_days_0 : decode cX12_days 0 = .ok (.iload_n 1, 1) := by decide +kernel
theorem dX12_days_1 : decode cX12_days 1 = .ok (.i2l, 1) := by decide +kernel
theorem dX12_days_2 : decode cX12_days 2 = .ok (.lconst 1, 1) := by decide +kernel
theorem dX12_days_3 : decode cX12_days 3 = .ok (.ldc2_w 130, 3) := by decide +kernel
theorem dX12_days_6 : decode cX12_days 6 = .ok (.invokestatic 69, 3) := by decide +kernel
theorem dX12_days_9 : decode cX12_days 9 = .ok (.ifCond .ne 9, 3) := by decide +kernel
theorem dX12_days_12 : decode cX12_days 12 = .ok (.aload_n 0, 1) := by decide +kernel
theorem dX12_days_13 : decode cX12_days 13 = .ok (.iconst 1, 1) := by decide +kernel
theorem dX12_days_14 : decode cX12_days 14 = .ok (.invokevirtual 114, 3) := by decide +kernel
theorem dX12_days_17 : decode cX12_days 17 = .ok (.ireturn, 1) := by decide +kernel
theorem dX12_days_18 : decode cX12_days 18 = .ok (.aload_n 0, 1) := by decide +kernel
theorem dX12_days_19 : decode cX12_days 19 = .ok (.getfield 9, 3) := by decide +kernel
theorem dX12_days_22 : decode cX12_days 22 = .ok (.iconst 0, 1) := by decide +kernel
theorem dX12_days_23 : decode cX12_days 23 = .ok (.iaload, 1) := by decide +kernel
theorem dX12_days_24 : decode cX12_days 24 = .ok (.bipush 16, 2) := by decide +kernel
theorem dX12_days_26 : decode cX12_days 26 = .ok (.iload_n 1, 1) := by decide +kernel
theorem dX12_days_27 : decode cX12_days 27 = .ok (.imul, 1) := by decide +kernel
theorem dX12_days_28 : decode cX12_days 28 = .ok (.iadd, 1) := by decide +kernel
theorem dX12_days_29 : decode cX12_days 29 = .ok (.sipush 9999, 3) := by decide +kernel
theorem dX12_days_32 : decode cX12_days 32 = .ok (.if_icmp .le 9, 3) := by decide +kernel
theorem dX12_days_35 : decode cX12_days 35 = .ok (.aload_n 0, 1) := by decide +kernel
theorem dX12_days_36 : decode cX12_days 36 = .ok (.iconst 3, 1) := by decide +kernel
theorem dX12_days_37 : decode cX12_days 37 = .ok (.invokevirtual 114, 3) := by decide +kernel
theorem dX12_days_40 : decode cX12_days 40 = .ok (.ireturn, 1) := by decide +kernel
theorem dX12_days_41 : decode cX12_days 41 = .ok (.iconst 0, 1) := by decide +kernel
theorem dX12_days_42 : decode cX12_days 42 = .ok (.istore_n 2, 1) := by decide +kernel
theorem dX12_days_43 : decode cX12_days 43 = .ok (.iload_n 2, 1) := by decide +kernel
theorem dX12_days_44 : decode cX12_days 44 = .ok (.bipush 16, 2) := by decide +kernel
theorem dX12_days_46 : decode cX12_days 46 = .ok (.iload_n 1, 1) := by decide +kernel
theorem dX12_days_47 : decode cX12_days 47 = .ok (.imul, 1) := by decide +kernel
theorem dX12_days_48 : decode cX12_days 48 = .ok (.if_icmp .ge 28, 3) := by decide +kernel
theorem dX12_days_51 : decode cX12_days 51 = .ok (.aload_n 0, 1) := by decide +kernel
theorem dX12_days_52 : decode cX12_days 52 = .ok (.invokevirtual 269, 3) := by decide +kernel
theorem dX12_days_55 : decode cX12_days 55 = .ok (.bipush 16, 2) := by decide +kernel
theorem dX12_days_57 : decode cX12_days 57 = .ok (.irem, 1) := by decide +kernel
theorem dX12_days_58 : decode cX12_days 58 = .ok (.ifCond .ne 8, 3) := by decide +kernel
theorem dX12_days_61 : decode cX12_days 61 = .ok (.aload_n 0, 1) := by decide +kernel
theorem dX12_days_62 : decode cX12_days 62 = .ok (.invokevirtual 272, 3) := by decide +kernel
theorem dX12_days_65 : decode cX12_days 65 = .ok (.istore_n 3, 1) := by decide +kernel
theorem dX12_days_66 : decode cX12_days 66 = .ok (.aload_n 0, 1) := by decide +kernel
theorem dX12_days_67 : decode cX12_days 67 = .ok (.invokevirtual 265, 3) := by decide +kernel
theorem dX12_days_70 : decode cX12_days 70 = .ok (.iinc 2 1, 3) := by decide +kernel
theorem dX12_days_73 : decode cX12_days 73 = .ok (.goto (-30), 3) := by decide +kernel
theorem dX12_days_76 : decode cX12_days 76 = .ok (.aload_n 0, 1) := by decide +kernel
theorem dX12_days_77 : decode cX12_days 77 = .ok (.getfield 9, 3) := by decide +kernel
theorem dX12_days_80 : decode cX12_days 80 = .ok (.iconst 1, 1) := by decide +kernel
theorem dX12_days_81 : decode cX12_days 81 = .ok (.iaload, 1) := by decide +kernel
theorem dX12_days_82 : decode cX12_days 82 = .ok (.ireturn, 1) := by decide +kernel
theorem dX12_thunder_0 : decode cX12_thunder 0 = .ok (.aload_n 0, 1) := by decide +kernel
theorem dX12_thunder_1 : decode cX12_thunder 1 = .ok (.invokevirtual 272, 3) := by decide +kernel
theorem dX12_thunder_4 : decode cX12_thunder 4 = .ok (.ireturn, 1) := by decide +kernel
theorem dX12_then_0 : decode cX12_then 0 = .ok (.iload_n 1, 1) := by decide +kernel
theorem dX12_then_1 : decode cX12_then 1 = .ok (.i2l, 1) := by decide +kernel
theorem dX12_then_2 : decode cX12_then 2 = .ok (.lconst 0, 1) := by decide +kernel
theorem dX12_then_3 : decode cX12_then 3 = .ok (.ldc2_w 263, 3) := by decide +kernel
theorem dX12_then_6 : decode cX12_then 6 = .ok (.invokestatic 69, 3) := by decide +kernel
theorem dX12_then_9 : decode cX12_then 9 = .ok (.ifCond .eq 25, 3) := by decide +kernel
theorem dX12_then_12 : decode cX12_then 12 = .ok (.aload_n 0, 1) := by decide +kernel
theorem dX12_then_13 : decode cX12_then 13 = .ok (.iload_n 2, 1) := by decide +kernel
theorem dX12_then_14 : decode cX12_then 14 = .ok (.invokevirtual 148, 3) := by decide +kernel
theorem dX12_then_17 : decode cX12_then 17 = .ok (.ifCond .eq 17, 3) := by decide +kernel
theorem dX12_then_20 : decode cX12_then 20 = .ok (.iload_n 3, 1) := by decide +kernel
theorem dX12_then_21 : decode cX12_then 21 = .ok (.i2l, 1) := by decide +kernel
theorem dX12_then_22 : decode cX12_then 22 = .ok (.ldc2_w 109, 3) := by decide +kernel
theorem dX12_then_25 : decode cX12_then 25 = .ok (.ldc2_w 275, 3) := by decide +kernel
theorem dX12_then_28 : decode cX12_then 28 = .ok (.invokestatic 69, 3) := by decide +kernel
theorem dX12_then_31 : decode cX12_then 31 = .ok (.ifCond .ne 9, 3) := by decide +kernel
theorem dX12_then_34 : decode cX12_then 34 = .ok (.aload_n 0, 1) := by decide +kernel
theorem dX12_then_35 : decode cX12_then 35 = .ok (.iconst 1, 1) := by decide +kernel
theorem dX12_then_36 : decode cX12_then 36 = .ok (.invokevirtual 114, 3) := by decide +kernel
theorem dX12_then_39 : decode cX12_then 39 = .ok (.ireturn, 1) := by decide +kernel
theorem dX12_then_40 : decode cX12_then 40 = .ok (.aload_n 0, 1) := by decide +kernel
theorem dX12_then_41 : decode cX12_then 41 = .ok (.invokevirtual 277, 3) := by decide +kernel
theorem dX12_then_44 : decode cX12_then 44 = .ok (.iconst 0, 1) := by decide +kernel
theorem dX12_then_45 : decode cX12_then 45 = .ok (.istore 4, 2) := by decide +kernel
theorem dX12_then_47 : decode cX12_then 47 = .ok (.iload 4, 2) := by decide +kernel
theorem dX12_then_49 : decode cX12_then 49 = .ok (.iload_n 1, 1) := by decide +kernel
theorem dX12_then_50 : decode cX12_then 50 = .ok (.if_icmp .ge 13, 3) := by decide +kernel
theorem dX12_then_53 : decode cX12_then 53 = .ok (.aload_n 0, 1) := by decide +kernel
theorem dX12_then_54 : decode cX12_then 54 = .ok (.invokevirtual 265, 3) := by decide +kernel
theorem dX12_then_57 : decode cX12_then 57 = .ok (.iinc 4 1, 3) := by decide +kernel
theorem dX12_then_60 : decode cX12_then 60 = .ok (.goto (-13), 3) := by decide +kernel
theorem dX12_then_63 : decode cX12_then 63 = .ok (.aload_n 0, 1) := by decide +kernel
theorem dX12_then_64 : decode cX12_then 64 = .ok (.iload_n 2, 1) := by decide +kernel
theorem dX12_then_65 : decode cX12_then 65 = .ok (.iload_n 3, 1) := by decide +kernel
theorem dX12_then_66 : decode cX12_then 66 = .ok (.invokevirtual 151, 3) := by decide +kernel
theorem dX12_then_69 : decode cX12_then 69 = .ok (.istore 4, 2) := by decide +kernel
theorem dX12_then_71 : decode cX12_then 71 = .ok (.aload_n 0, 1) := by decide +kernel
theorem dX12_then_72 : decode cX12_then 72 = .ok (.invokevirtual 280, 3) := by decide +kernel
theorem dX12_then_75 : decode cX12_then 75 = .ok (.iload 4, 2) := by decide +kernel
theorem dX12_then_77 : decode cX12_then 77 = .ok (.ireturn, 1) := by decide +kernel
theorem dX12_placeOf_0 : decode cX12_placeOf 0 = .ok (.iload_n 0, 1) := by decide +kernel
theorem dX12_placeOf_1 : decode cX12_placeOf 1 = .ok (.bipush 61, 2) := by decide +kernel
theorem dX12_placeOf_3 : decode cX12_placeOf 3 = .ok (.imul, 1) := by decide +kernel
theorem dX12_placeOf_4 : decode cX12_placeOf 4 = .ok (.iload_n 1, 1) := by decide +kernel
theorem dX12_placeOf_5 : decode cX12_placeOf 5 = .ok (.iadd, 1) := by decide +kernel
theorem dX12_placeOf_6 : decode cX12_placeOf 6 = .ok (.bipush 60, 2) := by decide +kernel
theorem dX12_placeOf_8 : decode cX12_placeOf 8 = .ok (.imul, 1) := by decide +kernel
theorem dX12_placeOf_9 : decode cX12_placeOf 9 = .ok (.iload_n 2, 1) := by decide +kernel
theorem dX12_placeOf_10 : decode cX12_placeOf 10 = .ok (.iadd, 1) := by decide +kernel
theorem dX12_placeOf_11 : decode cX12_placeOf 11 = .ok (.ireturn, 1) := by decide +kernel
theorem dX12_findWarmed_0 : decode cX12_findWarmed 0 = .ok (.iconst 0, 1) := by decide +kernel
theorem dX12_findWarmed_1 : decode cX12_findWarmed 1 = .ok (.istore_n 2, 1) := by decide +kernel
theorem dX12_findWarmed_2 : decode cX12_findWarmed 2 = .ok (.iload_n 2, 1) := by decide +kernel
theorem dX12_findWarmed_3 : decode cX12_findWarmed 3 = .ok (.bipush 9, 2) := by decide +kernel
theorem dX12_findWarmed_5 : decode cX12_findWarmed 5 = .ok (.if_icmp .ge 72, 3) := by decide +kernel
theorem dX12_findWarmed_8 : decode cX12_findWarmed 8 = .ok (.iconst 0, 1) := by decide +kernel
theorem dX12_findWarmed_9 : decode cX12_findWarmed 9 = .ok (.istore_n 3, 1) := by decide +kernel
theorem dX12_findWarmed_10 : decode cX12_findWarmed 10 = .ok (.iconst 0, 1) := by decide +kernel
theorem dX12_findWarmed_11 : decode cX12_findWarmed 11 = .ok (.istore 4, 2) := by decide +kernel
theorem dX12_findWarmed_13 : decode cX12_findWarmed 13 = .ok (.iload 4, 2) := by decide +kernel
theorem dX12_findWarmed_15 : decode cX12_findWarmed 15 = .ok (.bipush 60, 2) := by decide +kernel
theorem dX12_findWarmed_17 : decode cX12_findWarmed 17 = .ok (.if_icmp .gt 54, 3) := by decide +kernel
theorem dX12_findWarmed_20 : decode cX12_findWarmed 20 = .ok (.aload_n 0, 1) := by decide +kernel
theorem dX12_findWarmed_21 : decode cX12_findWarmed 21 = .ok (.getfield 35, 3) := by decide +kernel
theorem dX12_findWarmed_24 : decode cX12_findWarmed 24 = .ok (.iload_n 2, 1) := by decide +kernel
theorem dX12_findWarmed_25 : decode cX12_findWarmed 25 = .ok (.bipush 61, 2) := by decide +kernel
theorem dX12_findWarmed_27 : decode cX12_findWarmed 27 = .ok (.imul, 1) := by decide +kernel
theorem dX12_findWarmed_28 : decode cX12_findWarmed 28 = .ok (.iload 4, 2) := by decide +kernel
theorem dX12_findWarmed_30 : decode cX12_findWarmed 30 = .ok (.iadd, 1) := by decide +kernel
theorem dX12_findWarmed_31 : decode cX12_findWarmed 31 = .ok (.iload_n 3, 1) := by decide +kernel
theorem dX12_findWarmed_32 : decode cX12_findWarmed 32 = .ok (.iastore, 1) := by decide +kernel
theorem dX12_findWarmed_33 : decode cX12_findWarmed 33 = .ok (.iload_n 3, 1) := by decide +kernel
theorem dX12_findWarmed_34 : decode cX12_findWarmed 34 = .ok (.aload_n 0, 1) := by decide +kernel
theorem dX12_findWarmed_35 : decode cX12_findWarmed 35 = .ok (.iload_n 1, 1) := by decide +kernel
theorem dX12_findWarmed_36 : decode cX12_findWarmed 36 = .ok (.iconst 0, 1) := by decide +kernel
theorem dX12_findWarmed_37 : decode cX12_findWarmed 37 = .ok (.invokevirtual 79, 3) := by decide +kernel
theorem dX12_findWarmed_40 : decode cX12_findWarmed 40 = .ok (.aload_n 0, 1) := by decide +kernel
theorem dX12_findWarmed_41 : decode cX12_findWarmed 41 = .ok (.iload_n 1, 1) := by decide +kernel
theorem dX12_findWarmed_42 : decode cX12_findWarmed 42 = .ok (.iconst 1, 1) := by decide +kernel
theorem dX12_findWarmed_43 : decode cX12_findWarmed 43 = .ok (.invokevirtual 79, 3) := by decide +kernel
theorem dX12_findWarmed_46 : decode cX12_findWarmed 46 = .ok (.aload_n 0, 1) := by decide +kernel
theorem dX12_findWarmed_47 : decode cX12_findWarmed 47 = .ok (.iload_n 2, 1) := by decide +kernel
theorem dX12_findWarmed_48 : decode cX12_findWarmed 48 = .ok (.aload_n 0, 1) := by decide +kernel
theorem dX12_findWarmed_49 : decode cX12_findWarmed 49 = .ok (.getfield 9, 3) := by decide +kernel
theorem dX12_findWarmed_52 : decode cX12_findWarmed 52 = .ok (.iconst 0, 1) := by decide +kernel
theorem dX12_findWarmed_53 : decode cX12_findWarmed 53 = .ok (.iaload, 1) := by decide +kernel
theorem dX12_findWarmed_54 : decode cX12_findWarmed 54 = .ok (.iload 4, 2) := by decide +kernel
theorem dX12_findWarmed_56 : decode cX12_findWarmed 56 = .ok (.iadd, 1) := by decide +kernel
theorem dX12_findWarmed_57 : decode cX12_findWarmed 57 = .ok (.invokevirtual 122, 3) := by decide +kernel
theorem dX12_findWarmed_60 : decode cX12_findWarmed 60 = .ok (.invokestatic 242, 3) := by decide +kernel
theorem dX12_findWarmed_63 : decode cX12_findWarmed 63 = .ok (.iadd, 1) := by decide +kernel
theorem dX12_findWarmed_64 : decode cX12_findWarmed 64 = .ok (.istore_n 3, 1) := by decide +kernel
theorem dX12_findWarmed_65 : decode cX12_findWarmed 65 = .ok (.iinc 4 1, 3) := by decide +kernel
theorem dX12_findWarmed_68 : decode cX12_findWarmed 68 = .ok (.goto (-55), 3) := by decide +kernel
theorem dX12_findWarmed_71 : decode cX12_findWarmed 71 = .ok (.iinc 2 1, 3) := by decide +kernel
theorem dX12_findWarmed_74 : decode cX12_findWarmed 74 = .ok (.goto (-72), 3) := by decide +kernel
theorem dX12_findWarmed_77 : decode cX12_findWarmed 77 = .ok (.return_, 1) := by decide +kernel
theorem dX12_warmedIn_0 : decode cX12_warmedIn 0 = .ok (.aload_n 0, 1) := by decide +kernel
theorem dX12_warmedIn_1 : decode cX12_warmedIn 1 = .ok (.getfield 35, 3) := by decide +kernel
theorem dX12_warmedIn_4 : decode cX12_warmedIn 4 = .ok (.iload_n 1, 1) := by decide +kernel
theorem dX12_warmedIn_5 : decode cX12_warmedIn 5 = .ok (.bipush 61, 2) := by decide +kernel
theorem dX12_warmedIn_7 : decode cX12_warmedIn 7 = .ok (.imul, 1) := by decide +kernel
theorem dX12_warmedIn_8 : decode cX12_warmedIn 8 = .ok (.iload_n 3, 1) := by decide +kernel
theorem dX12_warmedIn_9 : decode cX12_warmedIn 9 = .ok (.iadd, 1) := by decide +kernel
theorem dX12_warmedIn_10 : decode cX12_warmedIn 10 = .ok (.iaload, 1) := by decide +kernel
theorem dX12_warmedIn_11 : decode cX12_warmedIn 11 = .ok (.aload_n 0, 1) := by decide +kernel
theorem dX12_warmedIn_12 : decode cX12_warmedIn 12 = .ok (.getfield 35, 3) := by decide +kernel
theorem dX12_warmedIn_15 : decode cX12_warmedIn 15 = .ok (.iload_n 1, 1) := by decide +kernel
theorem dX12_warmedIn_16 : decode cX12_warmedIn 16 = .ok (.bipush 61, 2) := by decide +kernel
theorem dX12_warmedIn_18 : decode cX12_warmedIn 18 = .ok (.imul, 1) := by decide +kernel
theorem dX12_warmedIn_19 : decode cX12_warmedIn 19 = .ok (.iload_n 2, 1) := by decide +kernel
theorem dX12_warmedIn_20 : decode cX12_warmedIn 20 = .ok (.iadd, 1) := by decide +kernel
theorem dX12_warmedIn_21 : decode cX12_warmedIn 21 = .ok (.iaload, 1) := by decide +kernel
theorem dX12_warmedIn_22 : decode cX12_warmedIn 22 = .ok (.isub, 1) := by decide +kernel
theorem dX12_warmedIn_23 : decode cX12_warmedIn 23 = .ok (.ireturn, 1) := by decide +kernel
theorem dX12_leastBy_0 : decode cX12_leastBy 0 = .ok (.iload 4, 2) := by decide +kernel
theorem dX12_leastBy_2 : decode cX12_leastBy 2 = .ok (.iload 6, 2) := by decide +kernel
theorem dX12_leastBy_4 : decode cX12_leastBy 4 = .ok (.iadd, 1) := by decide +kernel
theorem dX12_leastBy_5 : decode cX12_leastBy 5 = .ok (.istore 8, 2) := by decide +kernel
theorem dX12_leastBy_7 : decode cX12_leastBy 7 = .ok (.iload 8, 2) := by decide +kernel
theorem dX12_leastBy_9 : decode cX12_leastBy 9 = .ok (.aload_n 0, 1) := by decide +kernel
theorem dX12_leastBy_10 : decode cX12_leastBy 10 = .ok (.iload 7, 2) := by decide +kernel
theorem dX12_leastBy_12 : decode cX12_leastBy 12 = .ok (.invokevirtual 132, 3) := by decide +kernel
theorem dX12_leastBy_15 : decode cX12_leastBy 15 = .ok (.iadd, 1) := by decide +kernel
theorem dX12_leastBy_16 : decode cX12_leastBy 16 = .ok (.istore 9, 2) := by decide +kernel
theorem dX12_leastBy_18 : decode cX12_leastBy 18 = .ok (.iload 5, 2) := by decide +kernel
theorem dX12_leastBy_20 : decode cX12_leastBy 20 = .ok (.aload_n 0, 1) := by decide +kernel
theorem dX12_leastBy_21 : decode cX12_leastBy 21 = .ok (.iload 7, 2) := by decide +kernel
theorem dX12_leastBy_23 : decode cX12_leastBy 23 = .ok (.invokevirtual 132, 3) := by decide +kernel
theorem dX12_leastBy_26 : decode cX12_leastBy 26 = .ok (.aload_n 0, 1) := by decide +kernel
theorem dX12_leastBy_27 : decode cX12_leastBy 27 = .ok (.iload_n 1, 1) := by decide +kernel
theorem dX12_leastBy_28 : decode cX12_leastBy 28 = .ok (.iconst 0, 1) := by decide +kernel
theorem dX12_leastBy_29 : decode cX12_leastBy 29 = .ok (.invokevirtual 79, 3) := by decide +kernel
theorem dX12_leastBy_32 : decode cX12_leastBy 32 = .ok (.aload_n 0, 1) := by decide +kernel
theorem dX12_leastBy_33 : decode cX12_leastBy 33 = .ok (.iload_n 1, 1) := by decide +kernel
theorem dX12_leastBy_34 : decode cX12_leastBy 34 = .ok (.iconst 1, 1) := by decide +kernel
theorem dX12_leastBy_35 : decode cX12_leastBy 35 = .ok (.invokevirtual 79, 3) := by decide +kernel
theorem dX12_leastBy_38 : decode cX12_leastBy 38 = .ok (.aload_n 0, 1) := by decide +kernel
theorem dX12_leastBy_39 : decode cX12_leastBy 39 = .ok (.iload 7, 2) := by decide +kernel
theorem dX12_leastBy_41 : decode cX12_leastBy 41 = .ok (.invokevirtual 248, 3) := by decide +kernel
theorem dX12_leastBy_44 : decode cX12_leastBy 44 = .ok (.invokestatic 251, 3) := by decide +kernel
theorem dX12_leastBy_47 : decode cX12_leastBy 47 = .ok (.imul, 1) := by decide +kernel
theorem dX12_leastBy_48 : decode cX12_leastBy 48 = .ok (.iadd, 1) := by decide +kernel
theorem dX12_leastBy_49 : decode cX12_leastBy 49 = .ok (.istore 10, 2) := by decide +kernel
theorem dX12_leastBy_51 : decode cX12_leastBy 51 = .ok (.iload 9, 2) := by decide +kernel
theorem dX12_leastBy_53 : decode cX12_leastBy 53 = .ok (.iload_n 2, 1) := by decide +kernel
theorem dX12_leastBy_54 : decode cX12_leastBy 54 = .ok (.if_icmp .gt 10, 3) := by decide +kernel
theorem dX12_leastBy_57 : decode cX12_leastBy 57 = .ok (.iload 10, 2) := by decide +kernel
theorem dX12_leastBy_59 : decode cX12_leastBy 59 = .ok (.bipush 60, 2) := by decide +kernel
theorem dX12_leastBy_61 : decode cX12_leastBy 61 = .ok (.if_icmp .lt 7, 3) := by decide +kernel
theorem dX12_leastBy_64 : decode cX12_leastBy 64 = .ok (.ldc_w 283, 3) := by decide +kernel
theorem dX12_leastBy_67 : decode cX12_leastBy 67 = .ok (.ireturn, 1) := by decide +kernel
theorem dX12_leastBy_68 : decode cX12_leastBy 68 = .ok (.aload_n 0, 1) := by decide +kernel
theorem dX12_leastBy_69 : decode cX12_leastBy 69 = .ok (.iload_n 3, 1) := by decide +kernel
theorem dX12_leastBy_70 : decode cX12_leastBy 70 = .ok (.iconst 1, 1) := by decide +kernel
theorem dX12_leastBy_71 : decode cX12_leastBy 71 = .ok (.invokevirtual 98, 3) := by decide +kernel
theorem dX12_leastBy_74 : decode cX12_leastBy 74 = .ok (.ifCond .le 7, 3) := by decide +kernel
theorem dX12_leastBy_77 : decode cX12_leastBy 77 = .ok (.iconst 0, 1) := by decide +kernel
theorem dX12_leastBy_78 : decode cX12_leastBy 78 = .ok (.goto 12, 3) := by decide +kernel
theorem dX12_leastBy_81 : decode cX12_leastBy 81 = .ok (.aload_n 0, 1) := by decide +kernel
theorem dX12_leastBy_82 : decode cX12_leastBy 82 = .ok (.iload_n 3, 1) := by decide +kernel
theorem dX12_leastBy_83 : decode cX12_leastBy 83 = .ok (.iload 4, 2) := by decide +kernel
theorem dX12_leastBy_85 : decode cX12_leastBy 85 = .ok (.iload 8, 2) := by decide +kernel
theorem dX12_leastBy_87 : decode cX12_leastBy 87 = .ok (.invokevirtual 284, 3) := by decide +kernel
theorem dX12_leastBy_90 : decode cX12_leastBy 90 = .ok (.istore 11, 2) := by decide +kernel
theorem dX12_leastBy_92 : decode cX12_leastBy 92 = .ok (.ldc_w 283, 3) := by decide +kernel
theorem dX12_leastBy_95 : decode cX12_leastBy 95 = .ok (.iload 11, 2) := by decide +kernel
theorem dX12_leastBy_97 : decode cX12_leastBy 97 = .ok (.aload_n 0, 1) := by decide +kernel
theorem dX12_leastBy_98 : decode cX12_leastBy 98 = .ok (.iload_n 3, 1) := by decide +kernel
theorem dX12_leastBy_99 : decode cX12_leastBy 99 = .ok (.iload 8, 2) := by decide +kernel
theorem dX12_leastBy_101 : decode cX12_leastBy 101 = .ok (.iload 9, 2) := by decide +kernel
theorem dX12_leastBy_103 : decode cX12_leastBy 103 = .ok (.invokevirtual 284, 3) := by decide +kernel
theorem dX12_leastBy_106 : decode cX12_leastBy 106 = .ok (.iadd, 1) := by decide +kernel
theorem dX12_leastBy_107 : decode cX12_leastBy 107 = .ok (.aload_n 0, 1) := by decide +kernel
theorem dX12_leastBy_108 : decode cX12_leastBy 108 = .ok (.getfield 32, 3) := by decide +kernel
theorem dX12_leastBy_111 : decode cX12_leastBy 111 = .ok (.iload_n 3, 1) := by decide +kernel
theorem dX12_leastBy_112 : decode cX12_leastBy 112 = .ok (.iconst 1, 1) := by decide +kernel
theorem dX12_leastBy_113 : decode cX12_leastBy 113 = .ok (.iadd, 1) := by decide +kernel
theorem dX12_leastBy_114 : decode cX12_leastBy 114 = .ok (.iload 9, 2) := by decide +kernel
theorem dX12_leastBy_116 : decode cX12_leastBy 116 = .ok (.iload 10, 2) := by decide +kernel
theorem dX12_leastBy_118 : decode cX12_leastBy 118 = .ok (.invokestatic 287, 3) := by decide +kernel
theorem dX12_leastBy_121 : decode cX12_leastBy 121 = .ok (.iaload, 1) := by decide +kernel
theorem dX12_leastBy_122 : decode cX12_leastBy 122 = .ok (.iadd, 1) := by decide +kernel
theorem dX12_leastBy_123 : decode cX12_leastBy 123 = .ok (.invokestatic 54, 3) := by decide +kernel
theorem dX12_leastBy_126 : decode cX12_leastBy 126 = .ok (.ireturn, 1) := by decide +kernel
theorem dX12_leastFrom_0 : decode cX12_leastFrom 0 = .ok (.ldc_w 283, 3) := by decide +kernel
theorem dX12_leastFrom_3 : decode cX12_leastFrom 3 = .ok (.istore 6, 2) := by decide +kernel
theorem dX12_leastFrom_5 : decode cX12_leastFrom 5 = .ok (.aload_n 0, 1) := by decide +kernel
theorem dX12_leastFrom_6 : decode cX12_leastFrom 6 = .ok (.iconst (-1), 1) := by decide +kernel
theorem dX12_leastFrom_7 : decode cX12_leastFrom 7 = .ok (.putfield 290, 3) := by decide +kernel
theorem dX12_leastFrom_10 : decode cX12_leastFrom 10 = .ok (.iconst 0, 1) := by decide +kernel
theorem dX12_leastFrom_11 : decode cX12_leastFrom 11 = .ok (.istore 7, 2) := by decide +kernel
theorem dX12_leastFrom_13 : decode cX12_leastFrom 13 = .ok (.iload 7, 2) := by decide +kernel
theorem dX12_leastFrom_15 : decode cX12_leastFrom 15 = .ok (.bipush 12, 2) := by decide +kernel
theorem dX12_leastFrom_17 : decode cX12_leastFrom 17 = .ok (.if_icmp .ge 57, 3) := by decide +kernel
theorem dX12_leastFrom_20 : decode cX12_leastFrom 20 = .ok (.aload_n 0, 1) := by decide +kernel
theorem dX12_leastFrom_21 : decode cX12_leastFrom 21 = .ok (.iload_n 1, 1) := by decide +kernel
theorem dX12_leastFrom_22 : decode cX12_leastFrom 22 = .ok (.iload_n 2, 1) := by decide +kernel
theorem dX12_leastFrom_23 : decode cX12_leastFrom 23 = .ok (.iload_n 3, 1) := by decide +kernel
theorem dX12_leastFrom_24 : decode cX12_leastFrom 24 = .ok (.iload 4, 2) := by decide +kernel
theorem dX12_leastFrom_26 : decode cX12_leastFrom 26 = .ok (.iload 5, 2) := by decide +kernel
theorem dX12_leastFrom_28 : decode cX12_leastFrom 28 = .ok (.iload 7, 2) := by decide +kernel
theorem dX12_leastFrom_30 : decode cX12_leastFrom 30 = .ok (.iconst 4, 1) := by decide +kernel
theorem dX12_leastFrom_31 : decode cX12_leastFrom 31 = .ok (.idiv, 1) := by decide +kernel
theorem dX12_leastFrom_32 : decode cX12_leastFrom 32 = .ok (.iload 7, 2) := by decide +kernel
theorem dX12_leastFrom_34 : decode cX12_leastFrom 34 = .ok (.iconst 4, 1) := by decide +kernel
theorem dX12_leastFrom_35 : decode cX12_leastFrom 35 = .ok (.irem, 1) := by decide +kernel
theorem dX12_leastFrom_36 : decode cX12_leastFrom 36 = .ok (.invokevirtual 293, 3) := by decide +kernel
theorem dX12_leastFrom_39 : decode cX12_leastFrom 39 = .ok (.istore 8, 2) := by decide +kernel
theorem dX12_leastFrom_41 : decode cX12_leastFrom 41 = .ok (.iload 8, 2) := by decide +kernel
theorem dX12_leastFrom_43 : decode cX12_leastFrom 43 = .ok (.iload 6, 2) := by decide +kernel
theorem dX12_leastFrom_45 : decode cX12_leastFrom 45 = .ok (.if_icmp .ge 23, 3) := by decide +kernel
theorem dX12_leastFrom_48 : decode cX12_leastFrom 48 = .ok (.iload 8, 2) := by decide +kernel
theorem dX12_leastFrom_50 : decode cX12_leastFrom 50 = .ok (.istore 6, 2) := by decide +kernel
theorem dX12_leastFrom_52 : decode cX12_leastFrom 52 = .ok (.aload_n 0, 1) := by decide +kernel
theorem dX12_leastFrom_53 : decode cX12_leastFrom 53 = .ok (.bipush 10, 2) := by decide +kernel
theorem dX12_leastFrom_55 : decode cX12_leastFrom 55 = .ok (.iload 7, 2) := by decide +kernel
theorem dX12_leastFrom_57 : decode cX12_leastFrom 57 = .ok (.iconst 4, 1) := by decide +kernel
theorem dX12_leastFrom_58 : decode cX12_leastFrom 58 = .ok (.idiv, 1) := by decide +kernel
theorem dX12_leastFrom_59 : decode cX12_leastFrom 59 = .ok (.imul, 1) := by decide +kernel
theorem dX12_leastFrom_60 : decode cX12_leastFrom 60 = .ok (.iload 7, 2) := by decide +kernel
theorem dX12_leastFrom_62 : decode cX12_leastFrom 62 = .ok (.iconst 4, 1) := by decide +kernel
theorem dX12_leastFrom_63 : decode cX12_leastFrom 63 = .ok (.irem, 1) := by decide +kernel
theorem dX12_leastFrom_64 : decode cX12_leastFrom 64 = .ok (.iadd, 1) := by decide +kernel
theorem dX12_leastFrom_65 : decode cX12_leastFrom 65 = .ok (.putfield 290, 3) := by decide +kernel
theorem dX12_leastFrom_68 : decode cX12_leastFrom 68 = .ok (.iinc 7 1, 3) := by decide +kernel
theorem dX12_leastFrom_71 : decode cX12_leastFrom 71 = .ok (.goto (-58), 3) := by decide +kernel
theorem dX12_leastFrom_74 : decode cX12_leastFrom 74 = .ok (.iload 6, 2) := by decide +kernel
theorem dX12_leastFrom_76 : decode cX12_leastFrom 76 = .ok (.ireturn, 1) := by decide +kernel
theorem dX12_relayed_0 : decode cX12_relayed 0 = .ok (.aload_n 0, 1) := by decide +kernel
theorem dX12_relayed_1 : decode cX12_relayed 1 = .ok (.iload_n 1, 1) := by decide +kernel
theorem dX12_relayed_2 : decode cX12_relayed 2 = .ok (.invokevirtual 297, 3) := by decide +kernel
theorem dX12_relayed_5 : decode cX12_relayed 5 = .ok (.bipush 9, 2) := by decide +kernel
theorem dX12_relayed_7 : decode cX12_relayed 7 = .ok (.istore_n 3, 1) := by decide +kernel
theorem dX12_relayed_8 : decode cX12_relayed 8 = .ok (.iload_n 3, 1) := by decide +kernel
theorem dX12_relayed_9 : decode cX12_relayed 9 = .ok (.aload_n 0, 1) := by decide +kernel
theorem dX12_relayed_10 : decode cX12_relayed 10 = .ok (.iload_n 1, 1) := by decide +kernel
theorem dX12_relayed_11 : decode cX12_relayed 11 = .ok (.iconst 2, 1) := by decide +kernel
theorem dX12_relayed_12 : decode cX12_relayed 12 = .ok (.invokevirtual 79, 3) := by decide +kernel
theorem dX12_relayed_15 : decode cX12_relayed 15 = .ok (.if_icmp .lt 74, 3) := by decide +kernel
theorem dX12_relayed_18 : decode cX12_relayed 18 = .ok (.iconst 0, 1) := by decide +kernel
theorem dX12_relayed_19 : decode cX12_relayed 19 = .ok (.istore 4, 2) := by decide +kernel
theorem dX12_relayed_21 : decode cX12_relayed 21 = .ok (.iload 4, 2) := by decide +kernel
theorem dX12_relayed_23 : decode cX12_relayed 23 = .ok (.iload_n 2, 1) := by decide +kernel
theorem dX12_relayed_24 : decode cX12_relayed 24 = .ok (.if_icmp .gt 59, 3) := by decide +kernel
theorem dX12_relayed_27 : decode cX12_relayed 27 = .ok (.iconst 0, 1) := by decide +kernel
theorem dX12_relayed_28 : decode cX12_relayed 28 = .ok (.istore 5, 2) := by decide +kernel
theorem dX12_relayed_30 : decode cX12_relayed 30 = .ok (.iload 5, 2) := by decide +kernel
theorem dX12_relayed_32 : decode cX12_relayed 32 = .ok (.bipush 60, 2) := by decide +kernel
theorem dX12_relayed_34 : decode cX12_relayed 34 = .ok (.if_icmp .ge 43, 3) := by decide +kernel
theorem dX12_relayed_37 : decode cX12_relayed 37 = .ok (.aload_n 0, 1) := by decide +kernel
theorem dX12_relayed_38 : decode cX12_relayed 38 = .ok (.getfield 32, 3) := by decide +kernel
theorem dX12_relayed_41 : decode cX12_relayed 41 = .ok (.iload_n 3, 1) := by decide +kernel
theorem dX12_relayed_42 : decode cX12_relayed 42 = .ok (.iload 4, 2) := by decide +kernel
theorem dX12_relayed_44 : decode cX12_relayed 44 = .ok (.iload 5, 2) := by decide +kernel
theorem dX12_relayed_46 : decode cX12_relayed 46 = .ok (.invokestatic 287, 3) := by decide +kernel
theorem dX12_relayed_49 : decode cX12_relayed 49 = .ok (.iload_n 3, 1) := by decide +kernel
theorem dX12_relayed_50 : decode cX12_relayed 50 = .ok (.bipush 9, 2) := by decide +kernel
theorem dX12_relayed_52 : decode cX12_relayed 52 = .ok (.if_icmp .ne 7, 3) := by decide +kernel
theorem dX12_relayed_55 : decode cX12_relayed 55 = .ok (.iconst 0, 1) := by decide +kernel
theorem dX12_relayed_56 : decode cX12_relayed 56 = .ok (.goto 14, 3) := by decide +kernel
theorem dX12_relayed_59 : decode cX12_relayed 59 = .ok (.aload_n 0, 1) := by decide +kernel
theorem dX12_relayed_60 : decode cX12_relayed 60 = .ok (.iload_n 1, 1) := by decide +kernel
theorem dX12_relayed_61 : decode cX12_relayed 61 = .ok (.iload_n 2, 1) := by decide +kernel
theorem dX12_relayed_62 : decode cX12_relayed 62 = .ok (.iload_n 3, 1) := by decide +kernel
theorem dX12_relayed_63 : decode cX12_relayed 63 = .ok (.iload 4, 2) := by decide +kernel
theorem dX12_relayed_65 : decode cX12_relayed 65 = .ok (.iload 5, 2) := by decide +kernel
theorem dX12_relayed_67 : decode cX12_relayed 67 = .ok (.invokevirtual 300, 3) := by decide +kernel
theorem dX12_relayed_70 : decode cX12_relayed 70 = .ok (.iastore, 1) := by decide +kernel
theorem dX12_relayed_71 : decode cX12_relayed 71 = .ok (.iinc 5 1, 3) := by decide +kernel
theorem dX12_relayed_74 : decode cX12_relayed 74 = .ok (.goto (-44), 3) := by decide +kernel
theorem dX12_relayed_77 : decode cX12_relayed 77 = .ok (.iinc 4 1, 3) := by decide +kernel
theorem dX12_relayed_80 : decode cX12_relayed 80 = .ok (.goto (-59), 3) := by decide +kernel
theorem dX12_relayed_83 : decode cX12_relayed 83 = .ok (.iinc 3 (-1), 3) := by decide +kernel
theorem dX12_relayed_86 : decode cX12_relayed 86 = .ok (.goto (-78), 3) := by decide +kernel
theorem dX12_relayed_89 : decode cX12_relayed 89 = .ok (.aload_n 0, 1) := by decide +kernel
theorem dX12_relayed_90 : decode cX12_relayed 90 = .ok (.iload_n 1, 1) := by decide +kernel
theorem dX12_relayed_91 : decode cX12_relayed 91 = .ok (.iconst 5, 1) := by decide +kernel
theorem dX12_relayed_92 : decode cX12_relayed 92 = .ok (.invokevirtual 79, 3) := by decide +kernel
theorem dX12_relayed_95 : decode cX12_relayed 95 = .ok (.aload_n 0, 1) := by decide +kernel
theorem dX12_relayed_96 : decode cX12_relayed 96 = .ok (.getfield 32, 3) := by decide +kernel
theorem dX12_relayed_99 : decode cX12_relayed 99 = .ok (.aload_n 0, 1) := by decide +kernel
theorem dX12_relayed_100 : decode cX12_relayed 100 = .ok (.iload_n 1, 1) := by decide +kernel
theorem dX12_relayed_101 : decode cX12_relayed 101 = .ok (.iconst 2, 1) := by decide +kernel
theorem dX12_relayed_102 : decode cX12_relayed 102 = .ok (.invokevirtual 79, 3) := by decide +kernel
theorem dX12_relayed_105 : decode cX12_relayed 105 = .ok (.iconst 0, 1) := by decide +kernel
theorem dX12_relayed_106 : decode cX12_relayed 106 = .ok (.aload_n 0, 1) := by decide +kernel
theorem dX12_relayed_107 : decode cX12_relayed 107 = .ok (.iload_n 1, 1) := by decide +kernel
theorem dX12_relayed_108 : decode cX12_relayed 108 = .ok (.bipush 6, 2) := by decide +kernel
theorem dX12_relayed_110 : decode cX12_relayed 110 = .ok (.invokevirtual 79, 3) := by decide +kernel
theorem dX12_relayed_113 : decode cX12_relayed 113 = .ok (.invokestatic 287, 3) := by decide +kernel
theorem dX12_relayed_116 : decode cX12_relayed 116 = .ok (.iaload, 1) := by decide +kernel
theorem dX12_relayed_117 : decode cX12_relayed 117 = .ok (.iadd, 1) := by decide +kernel
theorem dX12_relayed_118 : decode cX12_relayed 118 = .ok (.istore_n 3, 1) := by decide +kernel
theorem dX12_relayed_119 : decode cX12_relayed 119 = .ok (.iload_n 3, 1) := by decide +kernel
theorem dX12_relayed_120 : decode cX12_relayed 120 = .ok (.aload_n 0, 1) := by decide +kernel
theorem dX12_relayed_121 : decode cX12_relayed 121 = .ok (.iload_n 1, 1) := by decide +kernel
theorem dX12_relayed_122 : decode cX12_relayed 122 = .ok (.iconst 0, 1) := by decide +kernel
theorem dX12_relayed_123 : decode cX12_relayed 123 = .ok (.invokevirtual 79, 3) := by decide +kernel
theorem dX12_relayed_126 : decode cX12_relayed 126 = .ok (.aload_n 0, 1) := by decide +kernel
theorem dX12_relayed_127 : decode cX12_relayed 127 = .ok (.iload_n 1, 1) := by decide +kernel
theorem dX12_relayed_128 : decode cX12_relayed 128 = .ok (.iconst 1, 1) := by decide +kernel
theorem dX12_relayed_129 : decode cX12_relayed 129 = .ok (.invokevirtual 79, 3) := by decide +kernel
theorem dX12_relayed_132 : decode cX12_relayed 132 = .ok (.invokestatic 82, 3) := by decide +kernel
theorem dX12_relayed_135 : decode cX12_relayed 135 = .ok (.if_icmp .ge 7, 3) := by decide +kernel
theorem dX12_relayed_138 : decode cX12_relayed 138 = .ok (.iload_n 3, 1) := by decide +kernel
theorem dX12_relayed_139 : decode cX12_relayed 139 = .ok (.goto 6, 3) := by decide +kernel
theorem dX12_relayed_142 : decode cX12_relayed 142 = .ok (.ldc_w 283, 3) := by decide +kernel
theorem dX12_relayed_145 : decode cX12_relayed 145 = .ok (.ireturn, 1) := by decide +kernel
theorem dX12_mayRelay_0 : decode cX12_mayRelay 0 = .ok (.aload_n 0, 1) := by decide +kernel
theorem dX12_mayRelay_1 : decode cX12_mayRelay 1 = .ok (.iload_n 1, 1) := by decide +kernel
theorem dX12_mayRelay_2 : decode cX12_mayRelay 2 = .ok (.iconst 3, 1) := by decide +kernel
theorem dX12_mayRelay_3 : decode cX12_mayRelay 3 = .ok (.invokevirtual 79, 3) := by decide +kernel
theorem dX12_mayRelay_6 : decode cX12_mayRelay 6 = .ok (.iconst 2, 1) := by decide +kernel
theorem dX12_mayRelay_7 : decode cX12_mayRelay 7 = .ok (.if_icmp .ge 15, 3) := by decide +kernel
theorem dX12_mayRelay_10 : decode cX12_mayRelay 10 = .ok (.aload_n 0, 1) := by decide +kernel
theorem dX12_mayRelay_11 : decode cX12_mayRelay 11 = .ok (.iload_n 1, 1) := by decide +kernel
theorem dX12_mayRelay_12 : decode cX12_mayRelay 12 = .ok (.invokevirtual 154, 3) := by decide +kernel
theorem dX12_mayRelay_15 : decode cX12_mayRelay 15 = .ok (.ifCond .ne 7, 3) := by decide +kernel
theorem dX12_mayRelay_18 : decode cX12_mayRelay 18 = .ok (.iconst 1, 1) := by decide +kernel
theorem dX12_mayRelay_19 : decode cX12_mayRelay 19 = .ok (.goto 4, 3) := by decide +kernel
theorem dX12_mayRelay_22 : decode cX12_mayRelay 22 = .ok (.iconst 0, 1) := by decide +kernel
theorem dX12_mayRelay_23 : decode cX12_mayRelay 23 = .ok (.ireturn, 1) := by decide +kernel
theorem dX12_wayAt_0 : decode cX12_wayAt 0 = .ok (.iconst 0, 1) := by decide +kernel
theorem dX12_wayAt_1 : decode cX12_wayAt 1 = .ok (.istore 4, 2) := by decide +kernel
theorem dX12_wayAt_3 : decode cX12_wayAt 3 = .ok (.aload_n 0, 1) := by decide +kernel
theorem dX12_wayAt_4 : decode cX12_wayAt 4 = .ok (.iload_n 1, 1) := by decide +kernel
theorem dX12_wayAt_5 : decode cX12_wayAt 5 = .ok (.bipush 6, 2) := by decide +kernel
theorem dX12_wayAt_7 : decode cX12_wayAt 7 = .ok (.invokevirtual 79, 3) := by decide +kernel
theorem dX12_wayAt_10 : decode cX12_wayAt 10 = .ok (.istore 5, 2) := by decide +kernel
theorem dX12_wayAt_12 : decode cX12_wayAt 12 = .ok (.iconst (-1), 1) := by decide +kernel
theorem dX12_wayAt_13 : decode cX12_wayAt 13 = .ok (.istore 6, 2) := by decide +kernel
theorem dX12_wayAt_15 : decode cX12_wayAt 15 = .ok (.aload_n 0, 1) := by decide +kernel
theorem dX12_wayAt_16 : decode cX12_wayAt 16 = .ok (.iload_n 1, 1) := by decide +kernel
theorem dX12_wayAt_17 : decode cX12_wayAt 17 = .ok (.iconst 2, 1) := by decide +kernel
theorem dX12_wayAt_18 : decode cX12_wayAt 18 = .ok (.invokevirtual 79, 3) := by decide +kernel
theorem dX12_wayAt_21 : decode cX12_wayAt 21 = .ok (.istore 7, 2) := by decide +kernel
theorem dX12_wayAt_23 : decode cX12_wayAt 23 = .ok (.iload 7, 2) := by decide +kernel
theorem dX12_wayAt_25 : decode cX12_wayAt 25 = .ok (.iload_n 3, 1) := by decide +kernel
theorem dX12_wayAt_26 : decode cX12_wayAt 26 = .ok (.if_icmp .gt 100, 3) := by decide +kernel
theorem dX12_wayAt_29 : decode cX12_wayAt 29 = .ok (.aload_n 0, 1) := by decide +kernel
theorem dX12_wayAt_30 : decode cX12_wayAt 30 = .ok (.iload_n 1, 1) := by decide +kernel
theorem dX12_wayAt_31 : decode cX12_wayAt 31 = .ok (.iload_n 2, 1) := by decide +kernel
theorem dX12_wayAt_32 : decode cX12_wayAt 32 = .ok (.iload 7, 2) := by decide +kernel
theorem dX12_wayAt_34 : decode cX12_wayAt 34 = .ok (.iload 4, 2) := by decide +kernel
theorem dX12_wayAt_36 : decode cX12_wayAt 36 = .ok (.iload 5, 2) := by decide +kernel
theorem dX12_wayAt_38 : decode cX12_wayAt 38 = .ok (.invokevirtual 300, 3) := by decide +kernel
theorem dX12_wayAt_41 : decode cX12_wayAt 41 = .ok (.istore 8, 2) := by decide +kernel
theorem dX12_wayAt_43 : decode cX12_wayAt 43 = .ok (.iload 8, 2) := by decide +kernel
theorem dX12_wayAt_45 : decode cX12_wayAt 45 = .ok (.ldc_w 283, 3) := by decide +kernel
theorem dX12_wayAt_48 : decode cX12_wayAt 48 = .ok (.if_icmp .ge 10, 3) := by decide +kernel
theorem dX12_wayAt_51 : decode cX12_wayAt 51 = .ok (.aload_n 0, 1) := by decide +kernel
theorem dX12_wayAt_52 : decode cX12_wayAt 52 = .ok (.getfield 290, 3) := by decide +kernel
theorem dX12_wayAt_55 : decode cX12_wayAt 55 = .ok (.goto 4, 3) := by decide +kernel
theorem dX12_wayAt_58 : decode cX12_wayAt 58 = .ok (.iconst (-1), 1) := by decide +kernel
theorem dX12_wayAt_59 : decode cX12_wayAt 59 = .ok (.istore 6, 2) := by decide +kernel
theorem dX12_wayAt_61 : decode cX12_wayAt 61 = .ok (.iload 4, 2) := by decide +kernel
theorem dX12_wayAt_63 : decode cX12_wayAt 63 = .ok (.iload 6, 2) := by decide +kernel
theorem dX12_wayAt_65 : decode cX12_wayAt 65 = .ok (.bipush 10, 2) := by decide +kernel
theorem dX12_wayAt_67 : decode cX12_wayAt 67 = .ok (.idiv, 1) := by decide +kernel
theorem dX12_wayAt_68 : decode cX12_wayAt 68 = .ok (.aload_n 0, 1) := by decide +kernel
theorem dX12_wayAt_69 : decode cX12_wayAt 69 = .ok (.iload 6, 2) := by decide +kernel
theorem dX12_wayAt_71 : decode cX12_wayAt 71 = .ok (.bipush 10, 2) := by decide +kernel
theorem dX12_wayAt_73 : decode cX12_wayAt 73 = .ok (.irem, 1) := by decide +kernel
theorem dX12_wayAt_74 : decode cX12_wayAt 74 = .ok (.invokevirtual 132, 3) := by decide +kernel
theorem dX12_wayAt_77 : decode cX12_wayAt 77 = .ok (.iadd, 1) := by decide +kernel
theorem dX12_wayAt_78 : decode cX12_wayAt 78 = .ok (.iadd, 1) := by decide +kernel
theorem dX12_wayAt_79 : decode cX12_wayAt 79 = .ok (.istore 4, 2) := by decide +kernel
theorem dX12_wayAt_81 : decode cX12_wayAt 81 = .ok (.iload 5, 2) := by decide +kernel
theorem dX12_wayAt_83 : decode cX12_wayAt 83 = .ok (.aload_n 0, 1) := by decide +kernel
theorem dX12_wayAt_84 : decode cX12_wayAt 84 = .ok (.iload 6, 2) := by decide +kernel
theorem dX12_wayAt_86 : decode cX12_wayAt 86 = .ok (.bipush 10, 2) := by decide +kernel
theorem dX12_wayAt_88 : decode cX12_wayAt 88 = .ok (.irem, 1) := by decide +kernel
theorem dX12_wayAt_89 : decode cX12_wayAt 89 = .ok (.invokevirtual 132, 3) := by decide +kernel
theorem dX12_wayAt_92 : decode cX12_wayAt 92 = .ok (.aload_n 0, 1) := by decide +kernel
theorem dX12_wayAt_93 : decode cX12_wayAt 93 = .ok (.iload_n 1, 1) := by decide +kernel
theorem dX12_wayAt_94 : decode cX12_wayAt 94 = .ok (.iconst 0, 1) := by decide +kernel
theorem dX12_wayAt_95 : decode cX12_wayAt 95 = .ok (.invokevirtual 79, 3) := by decide +kernel
theorem dX12_wayAt_98 : decode cX12_wayAt 98 = .ok (.aload_n 0, 1) := by decide +kernel
theorem dX12_wayAt_99 : decode cX12_wayAt 99 = .ok (.iload_n 1, 1) := by decide +kernel
theorem dX12_wayAt_100 : decode cX12_wayAt 100 = .ok (.iconst 1, 1) := by decide +kernel
theorem dX12_wayAt_101 : decode cX12_wayAt 101 = .ok (.invokevirtual 79, 3) := by decide +kernel
theorem dX12_wayAt_104 : decode cX12_wayAt 104 = .ok (.aload_n 0, 1) := by decide +kernel
theorem dX12_wayAt_105 : decode cX12_wayAt 105 = .ok (.iload 6, 2) := by decide +kernel
theorem dX12_wayAt_107 : decode cX12_wayAt 107 = .ok (.bipush 10, 2) := by decide +kernel
theorem dX12_wayAt_109 : decode cX12_wayAt 109 = .ok (.irem, 1) := by decide +kernel
theorem dX12_wayAt_110 : decode cX12_wayAt 110 = .ok (.invokevirtual 248, 3) := by decide +kernel
theorem dX12_wayAt_113 : decode cX12_wayAt 113 = .ok (.invokestatic 251, 3) := by decide +kernel
theorem dX12_wayAt_116 : decode cX12_wayAt 116 = .ok (.imul, 1) := by decide +kernel
theorem dX12_wayAt_117 : decode cX12_wayAt 117 = .ok (.iadd, 1) := by decide +kernel
theorem dX12_wayAt_118 : decode cX12_wayAt 118 = .ok (.istore 5, 2) := by decide +kernel
theorem dX12_wayAt_120 : decode cX12_wayAt 120 = .ok (.iinc 7 1, 3) := by decide +kernel
theorem dX12_wayAt_123 : decode cX12_wayAt 123 = .ok (.goto (-100), 3) := by decide +kernel
theorem dX12_wayAt_126 : decode cX12_wayAt 126 = .ok (.iload 6, 2) := by decide +kernel
theorem dX12_wayAt_128 : decode cX12_wayAt 128 = .ok (.ireturn, 1) := by decide +kernel
theorem dX12_relays_0 : decode cX12_relays 0 = .ok (.aload_n 0, 1) := by decide +kernel
theorem dX12_relays_1 : decode cX12_relays 1 = .ok (.iload_n 1, 1) := by decide +kernel
theorem dX12_relays_2 : decode cX12_relays 2 = .ok (.invokevirtual 148, 3) := by decide +kernel
theorem dX12_relays_5 : decode cX12_relays 5 = .ok (.ifCond .eq 29, 3) := by decide +kernel
theorem dX12_relays_8 : decode cX12_relays 8 = .ok (.iload_n 2, 1) := by decide +kernel
theorem dX12_relays_9 : decode cX12_relays 9 = .ok (.i2l, 1) := by decide +kernel
theorem dX12_relays_10 : decode cX12_relays 10 = .ok (.lconst 0, 1) := by decide +kernel
theorem dX12_relays_11 : decode cX12_relays 11 = .ok (.ldc2_w 304, 3) := by decide +kernel
theorem dX12_relays_14 : decode cX12_relays 14 = .ok (.invokestatic 69, 3) := by decide +kernel
theorem dX12_relays_17 : decode cX12_relays 17 = .ok (.ifCond .eq 17, 3) := by decide +kernel
theorem dX12_relays_20 : decode cX12_relays 20 = .ok (.iload_n 3, 1) := by decide +kernel
theorem dX12_relays_21 : decode cX12_relays 21 = .ok (.i2l, 1) := by decide +kernel
theorem dX12_relays_22 : decode cX12_relays 22 = .ok (.ldc2_w 306, 3) := by decide +kernel
theorem dX12_relays_25 : decode cX12_relays 25 = .ok (.ldc2_w 67, 3) := by decide +kernel
theorem dX12_relays_28 : decode cX12_relays 28 = .ok (.invokestatic 69, 3) := by decide +kernel
theorem dX12_relays_31 : decode cX12_relays 31 = .ok (.ifCond .ne 9, 3) := by decide +kernel
theorem dX12_relays_34 : decode cX12_relays 34 = .ok (.aload_n 0, 1) := by decide +kernel
theorem dX12_relays_35 : decode cX12_relays 35 = .ok (.iconst 1, 1) := by decide +kernel
theorem dX12_relays_36 : decode cX12_relays 36 = .ok (.invokevirtual 114, 3) := by decide +kernel
theorem dX12_relays_39 : decode cX12_relays 39 = .ok (.ireturn, 1) := by decide +kernel
theorem dX12_relays_40 : decode cX12_relays 40 = .ok (.aload_n 0, 1) := by decide +kernel
theorem dX12_relays_41 : decode cX12_relays 41 = .ok (.iload_n 1, 1) := by decide +kernel
theorem dX12_relays_42 : decode cX12_relays 42 = .ok (.invokevirtual 308, 3) := by decide +kernel
theorem dX12_relays_45 : decode cX12_relays 45 = .ok (.ifCond .ne 9, 3) := by decide +kernel
theorem dX12_relays_48 : decode cX12_relays 48 = .ok (.aload_n 0, 1) := by decide +kernel
theorem dX12_relays_49 : decode cX12_relays 49 = .ok (.iconst 3, 1) := by decide +kernel
theorem dX12_relays_50 : decode cX12_relays 50 = .ok (.invokevirtual 114, 3) := by decide +kernel
theorem dX12_relays_53 : decode cX12_relays 53 = .ok (.ireturn, 1) := by decide +kernel
theorem dX12_relays_54 : decode cX12_relays 54 = .ok (.aload_n 0, 1) := by decide +kernel
theorem dX12_relays_55 : decode cX12_relays 55 = .ok (.iload_n 1, 1) := by decide +kernel
theorem dX12_relays_56 : decode cX12_relays 56 = .ok (.iload_n 2, 1) := by decide +kernel
theorem dX12_relays_57 : decode cX12_relays 57 = .ok (.invokevirtual 311, 3) := by decide +kernel
theorem dX12_relays_60 : decode cX12_relays 60 = .ok (.istore 4, 2) := by decide +kernel
theorem dX12_relays_62 : decode cX12_relays 62 = .ok (.iload 4, 2) := by decide +kernel
theorem dX12_relays_64 : decode cX12_relays 64 = .ok (.ldc_w 283, 3) := by decide +kernel
theorem dX12_relays_67 : decode cX12_relays 67 = .ok (.if_icmp .eq 17, 3) := by decide +kernel
theorem dX12_relays_70 : decode cX12_relays 70 = .ok (.iload_n 3, 1) := by decide +kernel
theorem dX12_relays_71 : decode cX12_relays 71 = .ok (.ifCond .lt 19, 3) := by decide +kernel
theorem dX12_relays_74 : decode cX12_relays 74 = .ok (.iload_n 3, 1) := by decide +kernel
theorem dX12_relays_75 : decode cX12_relays 75 = .ok (.aload_n 0, 1) := by decide +kernel
theorem dX12_relays_76 : decode cX12_relays 76 = .ok (.iload_n 1, 1) := by decide +kernel
theorem dX12_relays_77 : decode cX12_relays 77 = .ok (.iconst 2, 1) := by decide +kernel
theorem dX12_relays_78 : decode cX12_relays 78 = .ok (.invokevirtual 79, 3) := by decide +kernel
theorem dX12_relays_81 : decode cX12_relays 81 = .ok (.if_icmp .ge 9, 3) := by decide +kernel
theorem dX12_relays_84 : decode cX12_relays 84 = .ok (.aload_n 0, 1) := by decide +kernel
theorem dX12_relays_85 : decode cX12_relays 85 = .ok (.iconst 2, 1) := by decide +kernel
theorem dX12_relays_86 : decode cX12_relays 86 = .ok (.invokevirtual 114, 3) := by decide +kernel
theorem dX12_relays_89 : decode cX12_relays 89 = .ok (.ireturn, 1) := by decide +kernel
theorem dX12_relays_90 : decode cX12_relays 90 = .ok (.iload_n 3, 1) := by decide +kernel
theorem dX12_relays_91 : decode cX12_relays 91 = .ok (.ifCond .ge 8, 3) := by decide +kernel
theorem dX12_relays_94 : decode cX12_relays 94 = .ok (.iload 4, 2) := by decide +kernel
theorem dX12_relays_96 : decode cX12_relays 96 = .ok (.goto 10, 3) := by decide +kernel
theorem dX12_relays_99 : decode cX12_relays 99 = .ok (.aload_n 0, 1) := by decide +kernel
theorem dX12_relays_100 : decode cX12_relays 100 = .ok (.iload_n 1, 1) := by decide +kernel
theorem dX12_relays_101 : decode cX12_relays 101 = .ok (.iload_n 2, 1) := by decide +kernel
theorem dX12_relays_102 : decode cX12_relays 102 = .ok (.iload_n 3, 1) := by decide +kernel
theorem dX12_relays_103 : decode cX12_relays 103 = .ok (.invokevirtual 314, 3) := by decide +kernel
theorem dX12_relays_106 : decode cX12_relays 106 = .ok (.ireturn, 1) := by decide +kernel
theorem dX12_begins_0 : decode cX12_begins 0 = .ok (.aload_n 0, 1) := by decide +kernel
theorem dX12_begins_1 : decode cX12_begins 1 = .ok (.iload_n 2, 1) := by decide +kernel
theorem dX12_begins_2 : decode cX12_begins 2 = .ok (.putfield 317, 3) := by decide +kernel
theorem dX12_begins_5 : decode cX12_begins 5 = .ok (.aload_n 0, 1) := by decide +kernel
theorem dX12_begins_6 : decode cX12_begins 6 = .ok (.iload_n 3, 1) := by decide +kernel
theorem dX12_begins_7 : decode cX12_begins 7 = .ok (.putfield 320, 3) := by decide +kernel
theorem dX12_begins_10 : decode cX12_begins 10 = .ok (.aload_n 0, 1) := by decide +kernel
theorem dX12_begins_11 : decode cX12_begins 11 = .ok (.iload 4, 2) := by decide +kernel
theorem dX12_begins_13 : decode cX12_begins 13 = .ok (.ifCond .eq 7, 3) := by decide +kernel
theorem dX12_begins_16 : decode cX12_begins 16 = .ok (.iconst 0, 1) := by decide +kernel
theorem dX12_begins_17 : decode cX12_begins 17 = .ok (.goto 9, 3) := by decide +kernel
theorem dX12_begins_20 : decode cX12_begins 20 = .ok (.aload_n 0, 1) := by decide +kernel
theorem dX12_begins_21 : decode cX12_begins 21 = .ok (.iload_n 1, 1) := by decide +kernel
theorem dX12_begins_22 : decode cX12_begins 22 = .ok (.iconst 5, 1) := by decide +kernel
theorem dX12_begins_23 : decode cX12_begins 23 = .ok (.invokevirtual 79, 3) := by decide +kernel
theorem dX12_begins_26 : decode cX12_begins 26 = .ok (.putfield 323, 3) := by decide +kernel
theorem dX12_begins_29 : decode cX12_begins 29 = .ok (.aload_n 0, 1) := by decide +kernel
theorem dX12_begins_30 : decode cX12_begins 30 = .ok (.iload 4, 2) := by decide +kernel
theorem dX12_begins_32 : decode cX12_begins 32 = .ok (.ifCond .eq 7, 3) := by decide +kernel
theorem dX12_begins_35 : decode cX12_begins 35 = .ok (.iconst 0, 1) := by decide +kernel
theorem dX12_begins_36 : decode cX12_begins 36 = .ok (.goto 10, 3) := by decide +kernel
theorem dX12_begins_39 : decode cX12_begins 39 = .ok (.aload_n 0, 1) := by decide +kernel
theorem dX12_begins_40 : decode cX12_begins 40 = .ok (.iload_n 1, 1) := by decide +kernel
theorem dX12_begins_41 : decode cX12_begins 41 = .ok (.bipush 6, 2) := by decide +kernel
theorem dX12_begins_43 : decode cX12_begins 43 = .ok (.invokevirtual 79, 3) := by decide +kernel
theorem dX12_begins_46 : decode cX12_begins 46 = .ok (.putfield 326, 3) := by decide +kernel
theorem dX12_begins_49 : decode cX12_begins 49 = .ok (.return_, 1) := by decide +kernel
theorem dX12_straight_0 : decode cX12_straight 0 = .ok (.aload_n 0, 1) := by decide +kernel
theorem dX12_straight_1 : decode cX12_straight 1 = .ok (.iload_n 1, 1) := by decide +kernel
theorem dX12_straight_2 : decode cX12_straight 2 = .ok (.iconst 0, 1) := by decide +kernel
theorem dX12_straight_3 : decode cX12_straight 3 = .ok (.invokevirtual 79, 3) := by decide +kernel
theorem dX12_straight_6 : decode cX12_straight 6 = .ok (.istore_n 3, 1) := by decide +kernel
theorem dX12_straight_7 : decode cX12_straight 7 = .ok (.aload_n 0, 1) := by decide +kernel
theorem dX12_straight_8 : decode cX12_straight 8 = .ok (.iload_n 1, 1) := by decide +kernel
theorem dX12_straight_9 : decode cX12_straight 9 = .ok (.iconst 1, 1) := by decide +kernel
theorem dX12_straight_10 : decode cX12_straight 10 = .ok (.invokevirtual 79, 3) := by decide +kernel
theorem dX12_straight_13 : decode cX12_straight 13 = .ok (.istore 4, 2) := by decide +kernel
theorem dX12_straight_15 : decode cX12_straight 15 = .ok (.aload_n 0, 1) := by decide +kernel
theorem dX12_straight_16 : decode cX12_straight 16 = .ok (.aload_n 0, 1) := by decide +kernel
theorem dX12_straight_17 : decode cX12_straight 17 = .ok (.getfield 323, 3) := by decide +kernel
theorem dX12_straight_20 : decode cX12_straight 20 = .ok (.iload_n 3, 1) := by decide +kernel
theorem dX12_straight_21 : decode cX12_straight 21 = .ok (.iload 4, 2) := by decide +kernel
theorem dX12_straight_23 : decode cX12_straight 23 = .ok (.aload_n 0, 1) := by decide +kernel
theorem dX12_straight_24 : decode cX12_straight 24 = .ok (.aload_n 0, 1) := by decide +kernel
theorem dX12_straight_25 : decode cX12_straight 25 = .ok (.getfield 317, 3) := by decide +kernel
theorem dX12_straight_28 : decode cX12_straight 28 = .ok (.aload_n 0, 1) := by decide +kernel
theorem dX12_straight_29 : decode cX12_straight 29 = .ok (.getfield 320, 3) := by decide +kernel
theorem dX12_straight_32 : decode cX12_straight 32 = .ok (.invokevirtual 122, 3) := by decide +kernel
theorem dX12_straight_35 : decode cX12_straight 35 = .ok (.invokestatic 242, 3) := by decide +kernel
theorem dX12_straight_38 : decode cX12_straight 38 = .ok (.iadd, 1) := by decide +kernel
theorem dX12_straight_39 : decode cX12_straight 39 = .ok (.iconst 0, 1) := by decide +kernel
theorem dX12_straight_40 : decode cX12_straight 40 = .ok (.sipush 9999, 3) := by decide +kernel
theorem dX12_straight_43 : decode cX12_straight 43 = .ok (.invokestatic 95, 3) := by decide +kernel
theorem dX12_straight_46 : decode cX12_straight 46 = .ok (.putfield 323, 3) := by decide +kernel
theorem dX12_straight_49 : decode cX12_straight 49 = .ok (.aload_n 0, 1) := by decide +kernel
theorem dX12_straight_50 : decode cX12_straight 50 = .ok (.aload_n 0, 1) := by decide +kernel
theorem dX12_straight_51 : decode cX12_straight 51 = .ok (.getfield 326, 3) := by decide +kernel
theorem dX12_straight_54 : decode cX12_straight 54 = .ok (.iload_n 3, 1) := by decide +kernel
theorem dX12_straight_55 : decode cX12_straight 55 = .ok (.iload 4, 2) := by decide +kernel
theorem dX12_straight_57 : decode cX12_straight 57 = .ok (.aload_n 0, 1) := by decide +kernel
theorem dX12_straight_58 : decode cX12_straight 58 = .ok (.iload_n 2, 1) := by decide +kernel
theorem dX12_straight_59 : decode cX12_straight 59 = .ok (.invokevirtual 248, 3) := by decide +kernel
theorem dX12_straight_62 : decode cX12_straight 62 = .ok (.invokestatic 251, 3) := by decide +kernel
theorem dX12_straight_65 : decode cX12_straight 65 = .ok (.iadd, 1) := by decide +kernel
theorem dX12_straight_66 : decode cX12_straight 66 = .ok (.iconst 0, 1) := by decide +kernel
theorem dX12_straight_67 : decode cX12_straight 67 = .ok (.sipush 9999, 3) := by decide +kernel
theorem dX12_straight_70 : decode cX12_straight 70 = .ok (.invokestatic 95, 3) := by decide +kernel
theorem dX12_straight_73 : decode cX12_straight 73 = .ok (.putfield 326, 3) := by decide +kernel
theorem dX12_straight_76 : decode cX12_straight 76 = .ok (.aload_n 0, 1) := by decide +kernel
theorem dX12_straight_77 : decode cX12_straight 77 = .ok (.dup, 1) := by decide +kernel
theorem dX12_straight_78 : decode cX12_straight 78 = .ok (.getfield 320, 3) := by decide +kernel
theorem dX12_straight_81 : decode cX12_straight 81 = .ok (.iconst 1, 1) := by decide +kernel
theorem dX12_straight_82 : decode cX12_straight 82 = .ok (.iadd, 1) := by decide +kernel
theorem dX12_straight_83 : decode cX12_straight 83 = .ok (.putfield 320, 3) := by decide +kernel
theorem dX12_straight_86 : decode cX12_straight 86 = .ok (.return_, 1) := by decide +kernel
theorem dX12_straightOn_0 : decode cX12_straightOn 0 = .ok (.iconst 0, 1) := by decide +kernel
theorem dX12_straightOn_1 : decode cX12_straightOn 1 = .ok (.istore_n 3, 1) := by decide +kernel
theorem dX12_straightOn_2 : decode cX12_straightOn 2 = .ok (.iload_n 3, 1) := by decide +kernel
theorem dX12_straightOn_3 : decode cX12_straightOn 3 = .ok (.aload_n 0, 1) := by decide +kernel
theorem dX12_straightOn_4 : decode cX12_straightOn 4 = .ok (.iload_n 2, 1) := by decide +kernel
theorem dX12_straightOn_5 : decode cX12_straightOn 5 = .ok (.invokevirtual 132, 3) := by decide +kernel
theorem dX12_straightOn_8 : decode cX12_straightOn 8 = .ok (.if_icmp .ge 15, 3) := by decide +kernel
theorem dX12_straightOn_11 : decode cX12_straightOn 11 = .ok (.aload_n 0, 1) := by decide +kernel
theorem dX12_straightOn_12 : decode cX12_straightOn 12 = .ok (.iload_n 1, 1) := by decide +kernel
theorem dX12_straightOn_13 : decode cX12_straightOn 13 = .ok (.iload_n 2, 1) := by decide +kernel
theorem dX12_straightOn_14 : decode cX12_straightOn 14 = .ok (.invokevirtual 329, 3) := by decide +kernel
theorem dX12_straightOn_17 : decode cX12_straightOn 17 = .ok (.iinc 3 1, 3) := by decide +kernel
theorem dX12_straightOn_20 : decode cX12_straightOn 20 = .ok (.goto (-18), 3) := by decide +kernel
theorem dX12_straightOn_23 : decode cX12_straightOn 23 = .ok (.aload_n 0, 1) := by decide +kernel
theorem dX12_straightOn_24 : decode cX12_straightOn 24 = .ok (.dup, 1) := by decide +kernel
theorem dX12_straightOn_25 : decode cX12_straightOn 25 = .ok (.getfield 317, 3) := by decide +kernel
theorem dX12_straightOn_28 : decode cX12_straightOn 28 = .ok (.iconst 1, 1) := by decide +kernel
theorem dX12_straightOn_29 : decode cX12_straightOn 29 = .ok (.iadd, 1) := by decide +kernel
theorem dX12_straightOn_30 : decode cX12_straightOn 30 = .ok (.putfield 317, 3) := by decide +kernel
theorem dX12_straightOn_33 : decode cX12_straightOn 33 = .ok (.return_, 1) := by decide +kernel
theorem dX12_turnsAt_0 : decode cX12_turnsAt 0 = .ok (.aload_n 0, 1) := by decide +kernel
theorem dX12_turnsAt_1 : decode cX12_turnsAt 1 = .ok (.iload_n 1, 1) := by decide +kernel
theorem dX12_turnsAt_2 : decode cX12_turnsAt 2 = .ok (.invokevirtual 148, 3) := by decide +kernel
theorem dX12_turnsAt_5 : decode cX12_turnsAt 5 = .ok (.ifCond .eq 10, 3) := by decide +kernel
theorem dX12_turnsAt_8 : decode cX12_turnsAt 8 = .ok (.iload_n 2, 1) := by decide +kernel
theorem dX12_turnsAt_9 : decode cX12_turnsAt 9 = .ok (.invokestatic 125, 3) := by decide +kernel
theorem dX12_turnsAt_12 : decode cX12_turnsAt 12 = .ok (.ifCond .ne 9, 3) := by decide +kernel
theorem dX12_turnsAt_15 : decode cX12_turnsAt 15 = .ok (.aload_n 0, 1) := by decide +kernel
theorem dX12_turnsAt_16 : decode cX12_turnsAt 16 = .ok (.iconst 1, 1) := by decide +kernel
theorem dX12_turnsAt_17 : decode cX12_turnsAt 17 = .ok (.invokevirtual 114, 3) := by decide +kernel
theorem dX12_turnsAt_20 : decode cX12_turnsAt 20 = .ok (.ireturn, 1) := by decide +kernel
theorem dX12_turnsAt_21 : decode cX12_turnsAt 21 = .ok (.aload_n 0, 1) := by decide +kernel
theorem dX12_turnsAt_22 : decode cX12_turnsAt 22 = .ok (.iload_n 1, 1) := by decide +kernel
theorem dX12_turnsAt_23 : decode cX12_turnsAt 23 = .ok (.invokevirtual 308, 3) := by decide +kernel
theorem dX12_turnsAt_26 : decode cX12_turnsAt 26 = .ok (.ifCond .ne 9, 3) := by decide +kernel
theorem dX12_turnsAt_29 : decode cX12_turnsAt 29 = .ok (.aload_n 0, 1) := by decide +kernel
theorem dX12_turnsAt_30 : decode cX12_turnsAt 30 = .ok (.iconst 3, 1) := by decide +kernel
theorem dX12_turnsAt_31 : decode cX12_turnsAt 31 = .ok (.invokevirtual 114, 3) := by decide +kernel
theorem dX12_turnsAt_34 : decode cX12_turnsAt 34 = .ok (.ireturn, 1) := by decide +kernel
theorem dX12_turnsAt_35 : decode cX12_turnsAt 35 = .ok (.aload_n 0, 1) := by decide +kernel
theorem dX12_turnsAt_36 : decode cX12_turnsAt 36 = .ok (.iload_n 1, 1) := by decide +kernel
theorem dX12_turnsAt_37 : decode cX12_turnsAt 37 = .ok (.aload_n 0, 1) := by decide +kernel
theorem dX12_turnsAt_38 : decode cX12_turnsAt 38 = .ok (.iload_n 1, 1) := by decide +kernel
theorem dX12_turnsAt_39 : decode cX12_turnsAt 39 = .ok (.iconst 2, 1) := by decide +kernel
theorem dX12_turnsAt_40 : decode cX12_turnsAt 40 = .ok (.invokevirtual 79, 3) := by decide +kernel
theorem dX12_turnsAt_43 : decode cX12_turnsAt 43 = .ok (.aload_n 0, 1) := by decide +kernel
theorem dX12_turnsAt_44 : decode cX12_turnsAt 44 = .ok (.getfield 9, 3) := by decide +kernel
theorem dX12_turnsAt_47 : decode cX12_turnsAt 47 = .ok (.iconst 0, 1) := by decide +kernel
theorem dX12_turnsAt_48 : decode cX12_turnsAt 48 = .ok (.iaload, 1) := by decide +kernel
theorem dX12_turnsAt_49 : decode cX12_turnsAt 49 = .ok (.iconst 0, 1) := by decide +kernel
theorem dX12_turnsAt_50 : decode cX12_turnsAt 50 = .ok (.invokevirtual 332, 3) := by decide +kernel
theorem dX12_turnsAt_53 : decode cX12_turnsAt 53 = .ok (.aload_n 0, 1) := by decide +kernel
theorem dX12_turnsAt_54 : decode cX12_turnsAt 54 = .ok (.getfield 317, 3) := by decide +kernel
theorem dX12_turnsAt_57 : decode cX12_turnsAt 57 = .ok (.bipush 9, 2) := by decide +kernel
theorem dX12_turnsAt_59 : decode cX12_turnsAt 59 = .ok (.if_icmp .ge 60, 3) := by decide +kernel
theorem dX12_turnsAt_62 : decode cX12_turnsAt 62 = .ok (.iconst 0, 1) := by decide +kernel
theorem dX12_turnsAt_63 : decode cX12_turnsAt 63 = .ok (.istore_n 3, 1) := by decide +kernel
theorem dX12_turnsAt_64 : decode cX12_turnsAt 64 = .ok (.iload_n 3, 1) := by decide +kernel
theorem dX12_turnsAt_65 : decode cX12_turnsAt 65 = .ok (.aload_n 0, 1) := by decide +kernel
theorem dX12_turnsAt_66 : decode cX12_turnsAt 66 = .ok (.iload_n 2, 1) := by decide +kernel
theorem dX12_turnsAt_67 : decode cX12_turnsAt 67 = .ok (.invokevirtual 132, 3) := by decide +kernel
theorem dX12_turnsAt_70 : decode cX12_turnsAt 70 = .ok (.if_icmp .ge 36, 3) := by decide +kernel
theorem dX12_turnsAt_73 : decode cX12_turnsAt 73 = .ok (.aload_n 0, 1) := by decide +kernel
theorem dX12_turnsAt_74 : decode cX12_turnsAt 74 = .ok (.iload_n 1, 1) := by decide +kernel
theorem dX12_turnsAt_75 : decode cX12_turnsAt 75 = .ok (.iload_n 2, 1) := by decide +kernel
theorem dX12_turnsAt_76 : decode cX12_turnsAt 76 = .ok (.invokevirtual 329, 3) := by decide +kernel
theorem dX12_turnsAt_79 : decode cX12_turnsAt 79 = .ok (.aload_n 0, 1) := by decide +kernel
theorem dX12_turnsAt_80 : decode cX12_turnsAt 80 = .ok (.iload_n 1, 1) := by decide +kernel
theorem dX12_turnsAt_81 : decode cX12_turnsAt 81 = .ok (.aload_n 0, 1) := by decide +kernel
theorem dX12_turnsAt_82 : decode cX12_turnsAt 82 = .ok (.getfield 323, 3) := by decide +kernel
theorem dX12_turnsAt_85 : decode cX12_turnsAt 85 = .ok (.aload_n 0, 1) := by decide +kernel
theorem dX12_turnsAt_86 : decode cX12_turnsAt 86 = .ok (.getfield 326, 3) := by decide +kernel
theorem dX12_turnsAt_89 : decode cX12_turnsAt 89 = .ok (.invokevirtual 85, 3) := by decide +kernel
theorem dX12_turnsAt_92 : decode cX12_turnsAt 92 = .ok (.ifCond .eq 8, 3) := by decide +kernel
theorem dX12_turnsAt_95 : decode cX12_turnsAt 95 = .ok (.aload_n 0, 1) := by decide +kernel
theorem dX12_turnsAt_96 : decode cX12_turnsAt 96 = .ok (.getfield 317, 3) := by decide +kernel
theorem dX12_turnsAt_99 : decode cX12_turnsAt 99 = .ok (.ireturn, 1) := by decide +kernel
theorem dX12_turnsAt_100 : decode cX12_turnsAt 100 = .ok (.iinc 3 1, 3) := by decide +kernel
theorem dX12_turnsAt_103 : decode cX12_turnsAt 103 = .ok (.goto (-39), 3) := by decide +kernel
theorem dX12_turnsAt_106 : decode cX12_turnsAt 106 = .ok (.aload_n 0, 1) := by decide +kernel
theorem dX12_turnsAt_107 : decode cX12_turnsAt 107 = .ok (.dup, 1) := by decide +kernel
theorem dX12_turnsAt_108 : decode cX12_turnsAt 108 = .ok (.getfield 317, 3) := by decide +kernel
theorem dX12_turnsAt_111 : decode cX12_turnsAt 111 = .ok (.iconst 1, 1) := by decide +kernel
theorem dX12_turnsAt_112 : decode cX12_turnsAt 112 = .ok (.iadd, 1) := by decide +kernel
theorem dX12_turnsAt_113 : decode cX12_turnsAt 113 = .ok (.putfield 317, 3) := by decide +kernel
theorem dX12_turnsAt_116 : decode cX12_turnsAt 116 = .ok (.goto (-63), 3) := by decide +kernel
theorem dX12_turnsAt_119 : decode cX12_turnsAt 119 = .ok (.iconst (-1), 1) := by decide +kernel
theorem dX12_turnsAt_120 : decode cX12_turnsAt 120 = .ok (.ireturn, 1) := by decide +kernel
theorem dX12_bestGiven_0 : decode cX12_bestGiven 0 = .ok (.aload_n 0, 1) := by decide +kernel
theorem dX12_bestGiven_1 : decode cX12_bestGiven 1 = .ok (.iload_n 1, 1) := by decide +kernel
theorem dX12_bestGiven_2 : decode cX12_bestGiven 2 = .ok (.invokevirtual 148, 3) := by decide +kernel
theorem dX12_bestGiven_5 : decode cX12_bestGiven 5 = .ok (.ifCond .eq 20, 3) := by decide +kernel
theorem dX12_bestGiven_8 : decode cX12_bestGiven 8 = .ok (.iload_n 2, 1) := by decide +kernel
theorem dX12_bestGiven_9 : decode cX12_bestGiven 9 = .ok (.invokestatic 125, 3) := by decide +kernel
theorem dX12_bestGiven_12 : decode cX12_bestGiven 12 = .ok (.ifCond .eq 13, 3) := by decide +kernel
theorem dX12_bestGiven_15 : decode cX12_bestGiven 15 = .ok (.iload_n 3, 1) := by decide +kernel
theorem dX12_bestGiven_16 : decode cX12_bestGiven 16 = .ok (.i2l, 1) := by decide +kernel
theorem dX12_bestGiven_17 : decode cX12_bestGiven 17 = .ok (.lconst 0, 1) := by decide +kernel
theorem dX12_bestGiven_18 : decode cX12_bestGiven 18 = .ok (.lconst 1, 1) := by decide +kernel
theorem dX12_bestGiven_19 : decode cX12_bestGiven 19 = .ok (.invokestatic 69, 3) := by decide +kernel
theorem dX12_bestGiven_22 : decode cX12_bestGiven 22 = .ok (.ifCond .ne 9, 3) := by decide +kernel
theorem dX12_bestGiven_25 : decode cX12_bestGiven 25 = .ok (.aload_n 0, 1) := by decide +kernel
theorem dX12_bestGiven_26 : decode cX12_bestGiven 26 = .ok (.iconst 1, 1) := by decide +kernel
theorem dX12_bestGiven_27 : decode cX12_bestGiven 27 = .ok (.invokevirtual 114, 3) := by decide +kernel
theorem dX12_bestGiven_30 : decode cX12_bestGiven 30 = .ok (.ireturn, 1) := by decide +kernel
theorem dX12_bestGiven_31 : decode cX12_bestGiven 31 = .ok (.aload_n 0, 1) := by decide +kernel
theorem dX12_bestGiven_32 : decode cX12_bestGiven 32 = .ok (.iload_n 1, 1) := by decide +kernel
theorem dX12_bestGiven_33 : decode cX12_bestGiven 33 = .ok (.invokevirtual 163, 3) := by decide +kernel
theorem dX12_bestGiven_36 : decode cX12_bestGiven 36 = .ok (.ifCond .ne 9, 3) := by decide +kernel
theorem dX12_bestGiven_39 : decode cX12_bestGiven 39 = .ok (.aload_n 0, 1) := by decide +kernel
theorem dX12_bestGiven_40 : decode cX12_bestGiven 40 = .ok (.iconst 3, 1) := by decide +kernel
theorem dX12_bestGiven_41 : decode cX12_bestGiven 41 = .ok (.invokevirtual 114, 3) := by decide +kernel
theorem dX12_bestGiven_44 : decode cX12_bestGiven 44 = .ok (.ireturn, 1) := by decide +kernel
theorem dX12_bestGiven_45 : decode cX12_bestGiven 45 = .ok (.aload_n 0, 1) := by decide +kernel
theorem dX12_bestGiven_46 : decode cX12_bestGiven 46 = .ok (.iload_n 1, 1) := by decide +kernel
theorem dX12_bestGiven_47 : decode cX12_bestGiven 47 = .ok (.aload_n 0, 1) := by decide +kernel
theorem dX12_bestGiven_48 : decode cX12_bestGiven 48 = .ok (.iload_n 1, 1) := by decide +kernel
theorem dX12_bestGiven_49 : decode cX12_bestGiven 49 = .ok (.iconst 2, 1) := by decide +kernel
theorem dX12_bestGiven_50 : decode cX12_bestGiven 50 = .ok (.invokevirtual 79, 3) := by decide +kernel
theorem dX12_bestGiven_53 : decode cX12_bestGiven 53 = .ok (.aload_n 0, 1) := by decide +kernel
theorem dX12_bestGiven_54 : decode cX12_bestGiven 54 = .ok (.getfield 9, 3) := by decide +kernel
theorem dX12_bestGiven_57 : decode cX12_bestGiven 57 = .ok (.iconst 0, 1) := by decide +kernel
theorem dX12_bestGiven_58 : decode cX12_bestGiven 58 = .ok (.iaload, 1) := by decide +kernel
theorem dX12_bestGiven_59 : decode cX12_bestGiven 59 = .ok (.iconst 0, 1) := by decide +kernel
theorem dX12_bestGiven_60 : decode cX12_bestGiven 60 = .ok (.invokevirtual 332, 3) := by decide +kernel
theorem dX12_bestGiven_63 : decode cX12_bestGiven 63 = .ok (.iconst (-1), 1) := by decide +kernel
theorem dX12_bestGiven_64 : decode cX12_bestGiven 64 = .ok (.istore 4, 2) := by decide +kernel
theorem dX12_bestGiven_66 : decode cX12_bestGiven 66 = .ok (.iconst (-1), 1) := by decide +kernel
theorem dX12_bestGiven_67 : decode cX12_bestGiven 67 = .ok (.istore 5, 2) := by decide +kernel
theorem dX12_bestGiven_69 : decode cX12_bestGiven 69 = .ok (.aload_n 0, 1) := by decide +kernel
theorem dX12_bestGiven_70 : decode cX12_bestGiven 70 = .ok (.getfield 317, 3) := by decide +kernel
theorem dX12_bestGiven_73 : decode cX12_bestGiven 73 = .ok (.bipush 9, 2) := by decide +kernel
theorem dX12_bestGiven_75 : decode cX12_bestGiven 75 = .ok (.if_icmp .ge 53, 3) := by decide +kernel
theorem dX12_bestGiven_78 : decode cX12_bestGiven 78 = .ok (.aload_n 0, 1) := by decide +kernel
theorem dX12_bestGiven_79 : decode cX12_bestGiven 79 = .ok (.aload_n 0, 1) := by decide +kernel
theorem dX12_bestGiven_80 : decode cX12_bestGiven 80 = .ok (.getfield 317, 3) := by decide +kernel
theorem dX12_bestGiven_83 : decode cX12_bestGiven 83 = .ok (.aload_n 0, 1) := by decide +kernel
theorem dX12_bestGiven_84 : decode cX12_bestGiven 84 = .ok (.getfield 323, 3) := by decide +kernel
theorem dX12_bestGiven_87 : decode cX12_bestGiven 87 = .ok (.invokevirtual 172, 3) := by decide +kernel
theorem dX12_bestGiven_90 : decode cX12_bestGiven 90 = .ok (.istore 6, 2) := by decide +kernel
theorem dX12_bestGiven_92 : decode cX12_bestGiven 92 = .ok (.iload 6, 2) := by decide +kernel
theorem dX12_bestGiven_94 : decode cX12_bestGiven 94 = .ok (.iload 5, 2) := by decide +kernel
theorem dX12_bestGiven_96 : decode cX12_bestGiven 96 = .ok (.if_icmp .le 10, 3) := by decide +kernel
theorem dX12_bestGiven_99 : decode cX12_bestGiven 99 = .ok (.aload_n 0, 1) := by decide +kernel
theorem dX12_bestGiven_100 : decode cX12_bestGiven 100 = .ok (.getfield 317, 3) := by decide +kernel
theorem dX12_bestGiven_103 : decode cX12_bestGiven 103 = .ok (.goto 5, 3) := by decide +kernel
theorem dX12_bestGiven_106 : decode cX12_bestGiven 106 = .ok (.iload 4, 2) := by decide +kernel
theorem dX12_bestGiven_108 : decode cX12_bestGiven 108 = .ok (.istore 4, 2) := by decide +kernel
theorem dX12_bestGiven_110 : decode cX12_bestGiven 110 = .ok (.iload 5, 2) := by decide +kernel
theorem dX12_bestGiven_112 : decode cX12_bestGiven 112 = .ok (.iload 6, 2) := by decide +kernel
theorem dX12_bestGiven_114 : decode cX12_bestGiven 114 = .ok (.invokestatic 60, 3) := by decide +kernel
theorem dX12_bestGiven_117 : decode cX12_bestGiven 117 = .ok (.istore 5, 2) := by decide +kernel
theorem dX12_bestGiven_119 : decode cX12_bestGiven 119 = .ok (.aload_n 0, 1) := by decide +kernel
theorem dX12_bestGiven_120 : decode cX12_bestGiven 120 = .ok (.iload_n 1, 1) := by decide +kernel
theorem dX12_bestGiven_121 : decode cX12_bestGiven 121 = .ok (.iload_n 2, 1) := by decide +kernel
theorem dX12_bestGiven_122 : decode cX12_bestGiven 122 = .ok (.invokevirtual 336, 3) := by decide +kernel
theorem dX12_bestGiven_125 : decode cX12_bestGiven 125 = .ok (.goto (-56), 3) := by decide +kernel
theorem dX12_bestGiven_128 : decode cX12_bestGiven 128 = .ok (.aload_n 0, 1) := by decide +kernel
theorem dX12_bestGiven_129 : decode cX12_bestGiven 129 = .ok (.iload_n 1, 1) := by decide +kernel
theorem dX12_bestGiven_130 : decode cX12_bestGiven 130 = .ok (.aload_n 0, 1) := by decide +kernel
theorem dX12_bestGiven_131 : decode cX12_bestGiven 131 = .ok (.getfield 323, 3) := by decide +kernel
theorem dX12_bestGiven_134 : decode cX12_bestGiven 134 = .ok (.aload_n 0, 1) := by decide +kernel
theorem dX12_bestGiven_135 : decode cX12_bestGiven 135 = .ok (.getfield 326, 3) := by decide +kernel
theorem dX12_bestGiven_138 : decode cX12_bestGiven 138 = .ok (.invokevirtual 257, 3) := by decide +kernel
theorem dX12_bestGiven_141 : decode cX12_bestGiven 141 = .ok (.istore 6, 2) := by decide +kernel
theorem dX12_bestGiven_143 : decode cX12_bestGiven 143 = .ok (.iload 6, 2) := by decide +kernel
theorem dX12_bestGiven_145 : decode cX12_bestGiven 145 = .ok (.iload 5, 2) := by decide +kernel
theorem dX12_bestGiven_147 : decode cX12_bestGiven 147 = .ok (.if_icmp .le 8, 3) := by decide +kernel
theorem dX12_bestGiven_150 : decode cX12_bestGiven 150 = .ok (.bipush 9, 2) := by decide +kernel
theorem dX12_bestGiven_152 : decode cX12_bestGiven 152 = .ok (.goto 5, 3) := by decide +kernel
theorem dX12_bestGiven_155 : decode cX12_bestGiven 155 = .ok (.iload 4, 2) := by decide +kernel
theorem dX12_bestGiven_157 : decode cX12_bestGiven 157 = .ok (.istore 4, 2) := by decide +kernel
theorem dX12_bestGiven_159 : decode cX12_bestGiven 159 = .ok (.iload 5, 2) := by decide +kernel
theorem dX12_bestGiven_161 : decode cX12_bestGiven 161 = .ok (.iload 6, 2) := by decide +kernel
theorem dX12_bestGiven_163 : decode cX12_bestGiven 163 = .ok (.invokestatic 60, 3) := by decide +kernel
theorem dX12_bestGiven_166 : decode cX12_bestGiven 166 = .ok (.istore 5, 2) := by decide +kernel
theorem dX12_bestGiven_168 : decode cX12_bestGiven 168 = .ok (.iload_n 3, 1) := by decide +kernel
theorem dX12_bestGiven_169 : decode cX12_bestGiven 169 = .ok (.ifCond .ne 8, 3) := by decide +kernel
theorem dX12_bestGiven_172 : decode cX12_bestGiven 172 = .ok (.iload 4, 2) := by decide +kernel
theorem dX12_bestGiven_174 : decode cX12_bestGiven 174 = .ok (.goto 5, 3) := by decide +kernel
theorem dX12_bestGiven_177 : decode cX12_bestGiven 177 = .ok (.iload 5, 2) := by decide +kernel
theorem dX12_bestGiven_179 : decode cX12_bestGiven 179 = .ok (.ireturn, 1) := by decide +kernel
theorem dX12_cellar_0 : decode cX12_cellar 0 = .ok (.aload_n 0, 1) := by decide +kernel
theorem dX12_cellar_1 : decode cX12_cellar 1 = .ok (.iload_n 1, 1) := by decide +kernel
theorem dX12_cellar_2 : decode cX12_cellar 2 = .ok (.invokevirtual 148, 3) := by decide +kernel
theorem dX12_cellar_5 : decode cX12_cellar 5 = .ok (.ifCond .eq 25, 3) := by decide +kernel
theorem dX12_cellar_8 : decode cX12_cellar 8 = .ok (.iload_n 2, 1) := by decide +kernel
theorem dX12_cellar_9 : decode cX12_cellar 9 = .ok (.i2l, 1) := by decide +kernel
theorem dX12_cellar_10 : decode cX12_cellar 10 = .ok (.lconst 0, 1) := by decide +kernel
theorem dX12_cellar_11 : decode cX12_cellar 11 = .ok (.ldc2_w 304, 3) := by decide +kernel
theorem dX12_cellar_14 : decode cX12_cellar 14 = .ok (.invokestatic 69, 3) := by decide +kernel
theorem dX12_cellar_17 : decode cX12_cellar 17 = .ok (.ifCond .eq 13, 3) := by decide +kernel
theorem dX12_cellar_20 : decode cX12_cellar 20 = .ok (.iload_n 3, 1) := by decide +kernel
theorem dX12_cellar_21 : decode cX12_cellar 21 = .ok (.i2l, 1) := by decide +kernel
theorem dX12_cellar_22 : decode cX12_cellar 22 = .ok (.lconst 0, 1) := by decide +kernel
theorem dX12_cellar_23 : decode cX12_cellar 23 = .ok (.lconst 1, 1) := by decide +kernel
theorem dX12_cellar_24 : decode cX12_cellar 24 = .ok (.invokestatic 69, 3) := by decide +kernel
theorem dX12_cellar_27 : decode cX12_cellar 27 = .ok (.ifCond .ne 9, 3) := by decide +kernel
theorem dX12_cellar_30 : decode cX12_cellar 30 = .ok (.aload_n 0, 1) := by decide +kernel
theorem dX12_cellar_31 : decode cX12_cellar 31 = .ok (.iconst 1, 1) := by decide +kernel
theorem dX12_cellar_32 : decode cX12_cellar 32 = .ok (.invokevirtual 114, 3) := by decide +kernel
theorem dX12_cellar_35 : decode cX12_cellar 35 = .ok (.ireturn, 1) := by decide +kernel
theorem dX12_cellar_36 : decode cX12_cellar 36 = .ok (.aload_n 0, 1) := by decide +kernel
theorem dX12_cellar_37 : decode cX12_cellar 37 = .ok (.iload_n 1, 1) := by decide +kernel
theorem dX12_cellar_38 : decode cX12_cellar 38 = .ok (.invokevirtual 308, 3) := by decide +kernel
theorem dX12_cellar_41 : decode cX12_cellar 41 = .ok (.ifCond .ne 9, 3) := by decide +kernel
theorem dX12_cellar_44 : decode cX12_cellar 44 = .ok (.aload_n 0, 1) := by decide +kernel
theorem dX12_cellar_45 : decode cX12_cellar 45 = .ok (.iconst 3, 1) := by decide +kernel
theorem dX12_cellar_46 : decode cX12_cellar 46 = .ok (.invokevirtual 114, 3) := by decide +kernel
theorem dX12_cellar_49 : decode cX12_cellar 49 = .ok (.ireturn, 1) := by decide +kernel
theorem dX12_cellar_50 : decode cX12_cellar 50 = .ok (.iconst (-1), 1) := by decide +kernel
theorem dX12_cellar_51 : decode cX12_cellar 51 = .ok (.istore 4, 2) := by decide +kernel
theorem dX12_cellar_53 : decode cX12_cellar 53 = .ok (.ldc_w 283, 3) := by decide +kernel
theorem dX12_cellar_56 : decode cX12_cellar 56 = .ok (.istore 5, 2) := by decide +kernel
theorem dX12_cellar_58 : decode cX12_cellar 58 = .ok (.iconst 0, 1) := by decide +kernel
theorem dX12_cellar_59 : decode cX12_cellar 59 = .ok (.istore 6, 2) := by decide +kernel
theorem dX12_cellar_61 : decode cX12_cellar 61 = .ok (.iload 6, 2) := by decide +kernel
theorem dX12_cellar_63 : decode cX12_cellar 63 = .ok (.bipush 9, 2) := by decide +kernel
theorem dX12_cellar_65 : decode cX12_cellar 65 = .ok (.if_icmp .ge 82, 3) := by decide +kernel
theorem dX12_cellar_68 : decode cX12_cellar 68 = .ok (.aload_n 0, 1) := by decide +kernel
theorem dX12_cellar_69 : decode cX12_cellar 69 = .ok (.iload 6, 2) := by decide +kernel
theorem dX12_cellar_71 : decode cX12_cellar 71 = .ok (.iconst 0, 1) := by decide +kernel
theorem dX12_cellar_72 : decode cX12_cellar 72 = .ok (.invokevirtual 98, 3) := by decide +kernel
theorem dX12_cellar_75 : decode cX12_cellar 75 = .ok (.istore 7, 2) := by decide +kernel
theorem dX12_cellar_77 : decode cX12_cellar 77 = .ok (.aload_n 0, 1) := by decide +kernel
theorem dX12_cellar_78 : decode cX12_cellar 78 = .ok (.getfield 9, 3) := by decide +kernel
theorem dX12_cellar_81 : decode cX12_cellar 81 = .ok (.bipush 6, 2) := by decide +kernel
theorem dX12_cellar_83 : decode cX12_cellar 83 = .ok (.iconst 3, 1) := by decide +kernel
theorem dX12_cellar_84 : decode cX12_cellar 84 = .ok (.iload 6, 2) := by decide +kernel
theorem dX12_cellar_86 : decode cX12_cellar 86 = .ok (.imul, 1) := by decide +kernel
theorem dX12_cellar_87 : decode cX12_cellar 87 = .ok (.iadd, 1) := by decide +kernel
theorem dX12_cellar_88 : decode cX12_cellar 88 = .ok (.iconst 0, 1) := by decide +kernel
theorem dX12_cellar_89 : decode cX12_cellar 89 = .ok (.iadd, 1) := by decide +kernel
theorem dX12_cellar_90 : decode cX12_cellar 90 = .ok (.iconst 0, 1) := by decide +kernel
theorem dX12_cellar_91 : decode cX12_cellar 91 = .ok (.iastore, 1) := by decide +kernel
theorem dX12_cellar_92 : decode cX12_cellar 92 = .ok (.aload_n 0, 1) := by decide +kernel
theorem dX12_cellar_93 : decode cX12_cellar 93 = .ok (.iload_n 1, 1) := by decide +kernel
theorem dX12_cellar_94 : decode cX12_cellar 94 = .ok (.iload_n 2, 1) := by decide +kernel
theorem dX12_cellar_95 : decode cX12_cellar 95 = .ok (.invokevirtual 311, 3) := by decide +kernel
theorem dX12_cellar_98 : decode cX12_cellar 98 = .ok (.istore 8, 2) := by decide +kernel
theorem dX12_cellar_100 : decode cX12_cellar 100 = .ok (.aload_n 0, 1) := by decide +kernel
theorem dX12_cellar_101 : decode cX12_cellar 101 = .ok (.getfield 9, 3) := by decide +kernel
theorem dX12_cellar_104 : decode cX12_cellar 104 = .ok (.bipush 6, 2) := by decide +kernel
theorem dX12_cellar_106 : decode cX12_cellar 106 = .ok (.iconst 3, 1) := by decide +kernel
theorem dX12_cellar_107 : decode cX12_cellar 107 = .ok (.iload 6, 2) := by decide +kernel
theorem dX12_cellar_109 : decode cX12_cellar 109 = .ok (.imul, 1) := by decide +kernel
theorem dX12_cellar_110 : decode cX12_cellar 110 = .ok (.iadd, 1) := by decide +kernel
theorem dX12_cellar_111 : decode cX12_cellar 111 = .ok (.iconst 0, 1) := by decide +kernel
theorem dX12_cellar_112 : decode cX12_cellar 112 = .ok (.iadd, 1) := by decide +kernel
theorem dX12_cellar_113 : decode cX12_cellar 113 = .ok (.iload 7, 2) := by decide +kernel
theorem dX12_cellar_115 : decode cX12_cellar 115 = .ok (.iastore, 1) := by decide +kernel
theorem dX12_cellar_116 : decode cX12_cellar 116 = .ok (.iload 8, 2) := by decide +kernel
theorem dX12_cellar_118 : decode cX12_cellar 118 = .ok (.iload 5, 2) := by decide +kernel
theorem dX12_cellar_120 : decode cX12_cellar 120 = .ok (.if_icmp .ge 8, 3) := by decide +kernel
theorem dX12_cellar_123 : decode cX12_cellar 123 = .ok (.iload 6, 2) := by decide +kernel
theorem dX12_cellar_125 : decode cX12_cellar 125 = .ok (.goto 5, 3) := by decide +kernel
theorem dX12_cellar_128 : decode cX12_cellar 128 = .ok (.iload 4, 2) := by decide +kernel
theorem dX12_cellar_130 : decode cX12_cellar 130 = .ok (.istore 4, 2) := by decide +kernel
theorem dX12_cellar_132 : decode cX12_cellar 132 = .ok (.iload 5, 2) := by decide +kernel
theorem dX12_cellar_134 : decode cX12_cellar 134 = .ok (.iload 8, 2) := by decide +kernel
theorem dX12_cellar_136 : decode cX12_cellar 136 = .ok (.invokestatic 54, 3) := by decide +kernel
theorem dX12_cellar_139 : decode cX12_cellar 139 = .ok (.istore 5, 2) := by decide +kernel
theorem dX12_cellar_141 : decode cX12_cellar 141 = .ok (.iinc 6 1, 3) := by decide +kernel
theorem dX12_cellar_144 : decode cX12_cellar 144 = .ok (.goto (-83), 3) := by decide +kernel
theorem dX12_cellar_147 : decode cX12_cellar 147 = .ok (.iload 4, 2) := by decide +kernel
theorem dX12_cellar_149 : decode cX12_cellar 149 = .ok (.ifCond .ge 9, 3) := by decide +kernel
theorem dX12_cellar_152 : decode cX12_cellar 152 = .ok (.aload_n 0, 1) := by decide +kernel
theorem dX12_cellar_153 : decode cX12_cellar 153 = .ok (.iconst 2, 1) := by decide +kernel
theorem dX12_cellar_154 : decode cX12_cellar 154 = .ok (.invokevirtual 114, 3) := by decide +kernel
theorem dX12_cellar_157 : decode cX12_cellar 157 = .ok (.ireturn, 1) := by decide +kernel
theorem dX12_cellar_158 : decode cX12_cellar 158 = .ok (.iload_n 3, 1) := by decide +kernel
theorem dX12_cellar_159 : decode cX12_cellar 159 = .ok (.ifCond .ne 8, 3) := by decide +kernel
theorem dX12_cellar_162 : decode cX12_cellar 162 = .ok (.iload 4, 2) := by decide +kernel
theorem dX12_cellar_164 : decode cX12_cellar 164 = .ok (.goto 5, 3) := by decide +kernel
theorem dX12_cellar_167 : decode cX12_cellar 167 = .ok (.iload 5, 2) := by decide +kernel
theorem dX12_cellar_169 : decode cX12_cellar 169 = .ok (.ireturn, 1) := by decide +kernel
theorem dX12_odds_0 : decode cX12_odds 0 = .ok (.iload_n 1, 1) := by decide +kernel
theorem dX12_odds_1 : decode cX12_odds 1 = .ok (.i2l, 1) := by decide +kernel
theorem dX12_odds_2 : decode cX12_odds 2 = .ok (.lconst 0, 1) := by decide +kernel
theorem dX12_odds_3 : decode cX12_odds 3 = .ok (.ldc2_w 339, 3) := by decide +kernel
theorem dX12_odds_6 : decode cX12_odds 6 = .ok (.invokestatic 69, 3) := by decide +kernel
theorem dX12_odds_9 : decode cX12_odds 9 = .ok (.ifCond .eq 25, 3) := by decide +kernel
theorem dX12_odds_12 : decode cX12_odds 12 = .ok (.iload_n 2, 1) := by decide +kernel
theorem dX12_odds_13 : decode cX12_odds 13 = .ok (.i2l, 1) := by decide +kernel
theorem dX12_odds_14 : decode cX12_odds 14 = .ok (.lconst 0, 1) := by decide +kernel
theorem dX12_odds_15 : decode cX12_odds 15 = .ok (.ldc2_w 341, 3) := by decide +kernel
theorem dX12_odds_18 : decode cX12_odds 18 = .ok (.invokestatic 69, 3) := by decide +kernel
theorem dX12_odds_21 : decode cX12_odds 21 = .ok (.ifCond .eq 13, 3) := by decide +kernel
theorem dX12_odds_24 : decode cX12_odds 24 = .ok (.iload_n 3, 1) := by decide +kernel
theorem dX12_odds_25 : decode cX12_odds 25 = .ok (.i2l, 1) := by decide +kernel
theorem dX12_odds_26 : decode cX12_odds 26 = .ok (.lconst 0, 1) := by decide +kernel
theorem dX12_odds_27 : decode cX12_odds 27 = .ok (.lconst 1, 1) := by decide +kernel
theorem dX12_odds_28 : decode cX12_odds 28 = .ok (.invokestatic 69, 3) := by decide +kernel
theorem dX12_odds_31 : decode cX12_odds 31 = .ok (.ifCond .ne 10, 3) := by decide +kernel
theorem dX12_odds_34 : decode cX12_odds 34 = .ok (.aload_n 0, 1) := by decide +kernel
theorem dX12_odds_35 : decode cX12_odds 35 = .ok (.iconst 1, 1) := by decide +kernel
theorem dX12_odds_36 : decode cX12_odds 36 = .ok (.invokevirtual 114, 3) := by decide +kernel
theorem dX12_odds_39 : decode cX12_odds 39 = .ok (.i2l, 1) := by decide +kernel
theorem dX12_odds_40 : decode cX12_odds 40 = .ok (.lreturn, 1) := by decide +kernel
theorem dX12_odds_41 : decode cX12_odds 41 = .ok (.lconst 1, 1) := by decide +kernel
theorem dX12_odds_42 : decode cX12_odds 42 = .ok (.lstore 4, 2) := by decide +kernel
theorem dX12_odds_44 : decode cX12_odds 44 = .ok (.lconst 1, 1) := by decide +kernel
theorem dX12_odds_45 : decode cX12_odds 45 = .ok (.lstore 6, 2) := by decide +kernel
theorem dX12_odds_47 : decode cX12_odds 47 = .ok (.iconst 0, 1) := by decide +kernel
theorem dX12_odds_48 : decode cX12_odds 48 = .ok (.istore 8, 2) := by decide +kernel
theorem dX12_odds_50 : decode cX12_odds 50 = .ok (.iload 8, 2) := by decide +kernel
theorem dX12_odds_52 : decode cX12_odds 52 = .ok (.iload_n 2, 1) := by decide +kernel
theorem dX12_odds_53 : decode cX12_odds 53 = .ok (.if_icmp .ge 27, 3) := by decide +kernel
theorem dX12_odds_56 : decode cX12_odds 56 = .ok (.lload 4, 2) := by decide +kernel
theorem dX12_odds_58 : decode cX12_odds 58 = .ok (.bipush 16, 2) := by decide +kernel
theorem dX12_odds_60 : decode cX12_odds 60 = .ok (.iload_n 1, 1) := by decide +kernel
theorem dX12_odds_61 : decode cX12_odds 61 = .ok (.isub, 1) := by decide +kernel
theorem dX12_odds_62 : decode cX12_odds 62 = .ok (.i2l, 1) := by decide +kernel
theorem dX12_odds_63 : decode cX12_odds 63 = .ok (.lmul, 1) := by decide +kernel
theorem dX12_odds_64 : decode cX12_odds 64 = .ok (.lstore 4, 2) := by decide +kernel
theorem dX12_odds_66 : decode cX12_odds 66 = .ok (.lload 6, 2) := by decide +kernel
theorem dX12_odds_68 : decode cX12_odds 68 = .ok (.ldc2_w 339, 3) := by decide +kernel
theorem dX12_odds_71 : decode cX12_odds 71 = .ok (.lmul, 1) := by decide +kernel
theorem dX12_odds_72 : decode cX12_odds 72 = .ok (.lstore 6, 2) := by decide +kernel
theorem dX12_odds_74 : decode cX12_odds 74 = .ok (.iinc 8 1, 3) := by decide +kernel
theorem dX12_odds_77 : decode cX12_odds 77 = .ok (.goto (-27), 3) := by decide +kernel
theorem dX12_odds_80 : decode cX12_odds 80 = .ok (.lload 4, 2) := by decide +kernel
theorem dX12_odds_82 : decode cX12_odds 82 = .ok (.lstore 8, 2) := by decide +kernel
theorem dX12_odds_84 : decode cX12_odds 84 = .ok (.lload 6, 2) := by decide +kernel
theorem dX12_odds_86 : decode cX12_odds 86 = .ok (.lstore 10, 2) := by decide +kernel
theorem dX12_odds_88 : decode cX12_odds 88 = .ok (.lload 10, 2) := by decide +kernel
theorem dX12_odds_90 : decode cX12_odds 90 = .ok (.lconst 0, 1) := by decide +kernel
theorem dX12_odds_91 : decode cX12_odds 91 = .ok (.lcmp, 1) := by decide +kernel
theorem dX12_odds_92 : decode cX12_odds 92 = .ok (.ifCond .eq 21, 3) := by decide +kernel
theorem dX12_odds_95 : decode cX12_odds 95 = .ok (.lload 8, 2) := by decide +kernel
theorem dX12_odds_97 : decode cX12_odds 97 = .ok (.lload 10, 2) := by decide +kernel
theorem dX12_odds_99 : decode cX12_odds 99 = .ok (.lrem, 1) := by decide +kernel
theorem dX12_odds_100 : decode cX12_odds 100 = .ok (.lstore 12, 2) := by decide +kernel
theorem dX12_odds_102 : decode cX12_odds 102 = .ok (.lload 10, 2) := by decide +kernel
theorem dX12_odds_104 : decode cX12_odds 104 = .ok (.lstore 8, 2) := by decide +kernel
theorem dX12_odds_106 : decode cX12_odds 106 = .ok (.lload 12, 2) := by decide +kernel
theorem dX12_odds_108 : decode cX12_odds 108 = .ok (.lstore 10, 2) := by decide +kernel
theorem dX12_odds_110 : decode cX12_odds 110 = .ok (.goto (-22), 3) := by decide +kernel
theorem dX12_odds_113 : decode cX12_odds 113 = .ok (.iload_n 3, 1) := by decide +kernel
theorem dX12_odds_114 : decode cX12_odds 114 = .ok (.ifCond .ne 8, 3) := by decide +kernel
theorem dX12_odds_117 : decode cX12_odds 117 = .ok (.lload 4, 2) := by decide +kernel
theorem dX12_odds_119 : decode cX12_odds 119 = .ok (.goto 5, 3) := by decide +kernel
theorem dX12_odds_122 : decode cX12_odds 122 = .ok (.lload 6, 2) := by decide +kernel
theorem dX12_odds_124 : decode cX12_odds 124 = .ok (.lload 8, 2) := by decide +kernel
theorem dX12_odds_126 : decode cX12_odds 126 = .ok (.ldiv, 1) := by decide +kernel
theorem dX12_odds_127 : decode cX12_odds 127 = .ok (.lreturn, 1) := by decide +kernel
theorem dX12_byWhom_0 : decode cX12_byWhom 0 = .ok (.aload_n 0, 1) := by decide +kernel
theorem dX12_byWhom_1 : decode cX12_byWhom 1 = .ok (.iload_n 1, 1) := by decide +kernel
theorem dX12_byWhom_2 : decode cX12_byWhom 2 = .ok (.invokevirtual 148, 3) := by decide +kernel
theorem dX12_byWhom_5 : decode cX12_byWhom 5 = .ok (.ifCond .eq 15, 3) := by decide +kernel
theorem dX12_byWhom_8 : decode cX12_byWhom 8 = .ok (.iload_n 2, 1) := by decide +kernel
theorem dX12_byWhom_9 : decode cX12_byWhom 9 = .ok (.i2l, 1) := by decide +kernel
theorem dX12_byWhom_10 : decode cX12_byWhom 10 = .ok (.lconst 0, 1) := by decide +kernel
theorem dX12_byWhom_11 : decode cX12_byWhom 11 = .ok (.ldc2_w 343, 3) := by decide +kernel
theorem dX12_byWhom_14 : decode cX12_byWhom 14 = .ok (.invokestatic 69, 3) := by decide +kernel
theorem dX12_byWhom_17 : decode cX12_byWhom 17 = .ok (.ifCond .ne 9, 3) := by decide +kernel
theorem dX12_byWhom_20 : decode cX12_byWhom 20 = .ok (.aload_n 0, 1) := by decide +kernel
theorem dX12_byWhom_21 : decode cX12_byWhom 21 = .ok (.iconst 1, 1) := by decide +kernel
theorem dX12_byWhom_22 : decode cX12_byWhom 22 = .ok (.invokevirtual 114, 3) := by decide +kernel
theorem dX12_byWhom_25 : decode cX12_byWhom 25 = .ok (.ireturn, 1) := by decide +kernel
theorem dX12_byWhom_26 : decode cX12_byWhom 26 = .ok (.iconst 0, 1) := by decide +kernel
theorem dX12_byWhom_27 : decode cX12_byWhom 27 = .ok (.istore 4, 2) := by decide +kernel
theorem dX12_byWhom_29 : decode cX12_byWhom 29 = .ok (.iconst 0, 1) := by decide +kernel
theorem dX12_byWhom_30 : decode cX12_byWhom 30 = .ok (.istore 5, 2) := by decide +kernel
theorem dX12_byWhom_32 : decode cX12_byWhom 32 = .ok (.iload 5, 2) := by decide +kernel
theorem dX12_byWhom_34 : decode cX12_byWhom 34 = .ok (.iconst 4, 1) := by decide +kernel
theorem dX12_byWhom_35 : decode cX12_byWhom 35 = .ok (.if_icmp .ge 57, 3) := by decide +kernel
theorem dX12_byWhom_38 : decode cX12_byWhom 38 = .ok (.aload_n 0, 1) := by decide +kernel
theorem dX12_byWhom_39 : decode cX12_byWhom 39 = .ok (.iload_n 1, 1) := by decide +kernel
theorem dX12_byWhom_40 : decode cX12_byWhom 40 = .ok (.iconst 0, 1) := by decide +kernel
theorem dX12_byWhom_41 : decode cX12_byWhom 41 = .ok (.iload_n 2, 1) := by decide +kernel
theorem dX12_byWhom_42 : decode cX12_byWhom 42 = .ok (.iconst 1, 1) := by decide +kernel
theorem dX12_byWhom_43 : decode cX12_byWhom 43 = .ok (.invokevirtual 332, 3) := by decide +kernel
theorem dX12_byWhom_46 : decode cX12_byWhom 46 = .ok (.aload_n 0, 1) := by decide +kernel
theorem dX12_byWhom_47 : decode cX12_byWhom 47 = .ok (.getfield 317, 3) := by decide +kernel
theorem dX12_byWhom_50 : decode cX12_byWhom 50 = .ok (.bipush 9, 2) := by decide +kernel
theorem dX12_byWhom_52 : decode cX12_byWhom 52 = .ok (.if_icmp .ge 13, 3) := by decide +kernel
theorem dX12_byWhom_55 : decode cX12_byWhom 55 = .ok (.aload_n 0, 1) := by decide +kernel
theorem dX12_byWhom_56 : decode cX12_byWhom 56 = .ok (.iload_n 1, 1) := by decide +kernel
theorem dX12_byWhom_57 : decode cX12_byWhom 57 = .ok (.iload 5, 2) := by decide +kernel
theorem dX12_byWhom_59 : decode cX12_byWhom 59 = .ok (.invokevirtual 336, 3) := by decide +kernel
theorem dX12_byWhom_62 : decode cX12_byWhom 62 = .ok (.goto (-16), 3) := by decide +kernel
theorem dX12_byWhom_65 : decode cX12_byWhom 65 = .ok (.iload 4, 2) := by decide +kernel
theorem dX12_byWhom_67 : decode cX12_byWhom 67 = .ok (.aload_n 0, 1) := by decide +kernel
theorem dX12_byWhom_68 : decode cX12_byWhom 68 = .ok (.getfield 323, 3) := by decide +kernel
theorem dX12_byWhom_71 : decode cX12_byWhom 71 = .ok (.iload_n 3, 1) := by decide +kernel
theorem dX12_byWhom_72 : decode cX12_byWhom 72 = .ok (.if_icmp .ne 10, 3) := by decide +kernel
theorem dX12_byWhom_75 : decode cX12_byWhom 75 = .ok (.iconst 1, 1) := by decide +kernel
theorem dX12_byWhom_76 : decode cX12_byWhom 76 = .ok (.iload 5, 2) := by decide +kernel
theorem dX12_byWhom_78 : decode cX12_byWhom 78 = .ok (.ishl, 1) := by decide +kernel
theorem dX12_byWhom_79 : decode cX12_byWhom 79 = .ok (.goto 4, 3) := by decide +kernel
theorem dX12_byWhom_82 : decode cX12_byWhom 82 = .ok (.iconst 0, 1) := by decide +kernel
theorem dX12_byWhom_83 : decode cX12_byWhom 83 = .ok (.ior, 1) := by decide +kernel
theorem dX12_byWhom_84 : decode cX12_byWhom 84 = .ok (.istore 4, 2) := by decide +kernel
theorem dX12_byWhom_86 : decode cX12_byWhom 86 = .ok (.iinc 5 1, 3) := by decide +kernel
theorem dX12_byWhom_89 : decode cX12_byWhom 89 = .ok (.goto (-57), 3) := by decide +kernel
theorem dX12_byWhom_92 : decode cX12_byWhom 92 = .ok (.iload 4, 2) := by decide +kernel
theorem dX12_byWhom_94 : decode cX12_byWhom 94 = .ok (.ireturn, 1) := by decide +kernel
theorem dX12_runs_0 : decode cX12_runs 0 = .ok (.aload_n 0, 1) := by decide +kernel
theorem dX12_runs_1 : decode cX12_runs 1 = .ok (.getfield 345, 3) := by decide +kernel
theorem dX12_runs_4 : decode cX12_runs 4 = .ok (.bipush 40, 2) := by decide +kernel
theorem dX12_runs_6 : decode cX12_runs 6 = .ok (.if_icmp .ge 23, 3) := by decide +kernel
theorem dX12_runs_9 : decode cX12_runs 9 = .ok (.aload_n 0, 1) := by decide +kernel
theorem dX12_runs_10 : decode cX12_runs 10 = .ok (.getfield 38, 3) := by decide +kernel
theorem dX12_runs_13 : decode cX12_runs 13 = .ok (.aload_n 0, 1) := by decide +kernel
theorem dX12_runs_14 : decode cX12_runs 14 = .ok (.getfield 345, 3) := by decide +kernel
theorem dX12_runs_17 : decode cX12_runs 17 = .ok (.iload_n 1, 1) := by decide +kernel
theorem dX12_runs_18 : decode cX12_runs 18 = .ok (.iastore, 1) := by decide +kernel
theorem dX12_runs_19 : decode cX12_runs 19 = .ok (.aload_n 0, 1) := by decide +kernel
theorem dX12_runs_20 : decode cX12_runs 20 = .ok (.dup, 1) := by decide +kernel
theorem dX12_runs_21 : decode cX12_runs 21 = .ok (.getfield 345, 3) := by decide +kernel
theorem dX12_runs_24 : decode cX12_runs 24 = .ok (.iconst 1, 1) := by decide +kernel
theorem dX12_runs_25 : decode cX12_runs 25 = .ok (.iadd, 1) := by decide +kernel
theorem dX12_runs_26 : decode cX12_runs 26 = .ok (.putfield 345, 3) := by decide +kernel
theorem dX12_runs_29 : decode cX12_runs 29 = .ok (.return_, 1) := by decide +kernel
theorem dX12_fills_0 : decode cX12_fills 0 = .ok (.aload_n 0, 1) := by decide +kernel
theorem dX12_fills_1 : decode cX12_fills 1 = .ok (.getfield 348, 3) := by decide +kernel
theorem dX12_fills_4 : decode cX12_fills 4 = .ok (.iconst 2, 1) := by decide +kernel
theorem dX12_fills_5 : decode cX12_fills 5 = .ok (.if_icmp .eq 11, 3) := by decide +kernel
theorem dX12_fills_8 : decode cX12_fills 8 = .ok (.aload_n 0, 1) := by decide +kernel
theorem dX12_fills_9 : decode cX12_fills 9 = .ok (.getfield 348, 3) := by decide +kernel
theorem dX12_fills_12 : decode cX12_fills 12 = .ok (.iconst 5, 1) := by decide +kernel
theorem dX12_fills_13 : decode cX12_fills 13 = .ok (.if_icmp .ne 24, 3) := by decide +kernel
theorem dX12_fills_16 : decode cX12_fills 16 = .ok (.aload_n 0, 1) := by decide +kernel
theorem dX12_fills_17 : decode cX12_fills 17 = .ok (.bipush 30, 2) := by decide +kernel
theorem dX12_fills_19 : decode cX12_fills 19 = .ok (.invokevirtual 351, 3) := by decide +kernel
theorem dX12_fills_22 : decode cX12_fills 22 = .ok (.aload_n 0, 1) := by decide +kernel
theorem dX12_fills_23 : decode cX12_fills 23 = .ok (.bipush 10, 2) := by decide +kernel
theorem dX12_fills_25 : decode cX12_fills 25 = .ok (.invokevirtual 351, 3) := by decide +kernel
theorem dX12_fills_28 : decode cX12_fills 28 = .ok (.iconst 3, 1) := by decide +kernel
theorem dX12_fills_29 : decode cX12_fills 29 = .ok (.iload_n 1, 1) := by decide +kernel
theorem dX12_fills_30 : decode cX12_fills 30 = .ok (.aload_n 0, 1) := by decide +kernel
theorem dX12_fills_31 : decode cX12_fills 31 = .ok (.getfield 354, 3) := by decide +kernel
theorem dX12_fills_34 : decode cX12_fills 34 = .ok (.iadd, 1) := by decide +kernel
theorem dX12_fills_35 : decode cX12_fills 35 = .ok (.imul, 1) := by decide +kernel
theorem dX12_fills_36 : decode cX12_fills 36 = .ok (.ireturn, 1) := by decide +kernel
theorem dX12_fills_37 : decode cX12_fills 37 = .ok (.aload_n 0, 1) := by decide +kernel
theorem dX12_fills_38 : decode cX12_fills 38 = .ok (.bipush 10, 2) := by decide +kernel
theorem dX12_fills_40 : decode cX12_fills 40 = .ok (.invokevirtual 351, 3) := by decide +kernel
theorem dX12_fills_43 : decode cX12_fills 43 = .ok (.iload_n 1, 1) := by decide +kernel
theorem dX12_fills_44 : decode cX12_fills 44 = .ok (.aload_n 0, 1) := by decide +kernel
theorem dX12_fills_45 : decode cX12_fills 45 = .ok (.getfield 354, 3) := by decide +kernel
theorem dX12_fills_48 : decode cX12_fills 48 = .ok (.iadd, 1) := by decide +kernel
theorem dX12_fills_49 : decode cX12_fills 49 = .ok (.ireturn, 1) := by decide +kernel
theorem dX12_plainShakes_0 : decode cX12_plainShakes 0 = .ok (.aload_n 0, 1) := by decide +kernel
theorem dX12_plainShakes_1 : decode cX12_plainShakes 1 = .ok (.bipush 11, 2) := by decide +kernel
theorem dX12_plainShakes_3 : decode cX12_plainShakes 3 = .ok (.invokevirtual 351, 3) := by decide +kernel
theorem dX12_plainShakes_6 : decode cX12_plainShakes 6 = .ok (.iconst 2, 1) := by decide +kernel
theorem dX12_plainShakes_7 : decode cX12_plainShakes 7 = .ok (.aload_n 0, 1) := by decide +kernel
theorem dX12_plainShakes_8 : decode cX12_plainShakes 8 = .ok (.iload_n 1, 1) := by decide +kernel
theorem dX12_plainShakes_9 : decode cX12_plainShakes 9 = .ok (.invokevirtual 357, 3) := by decide +kernel
theorem dX12_plainShakes_12 : decode cX12_plainShakes 12 = .ok (.imul, 1) := by decide +kernel
theorem dX12_plainShakes_13 : decode cX12_plainShakes 13 = .ok (.ireturn, 1) := by decide +kernel
theorem dX12_goatsShakes_0 : decode cX12_goatsShakes 0 = .ok (.aload_n 0, 1) := by decide +kernel
theorem dX12_goatsShakes_1 : decode cX12_goatsShakes 1 = .ok (.bipush 20, 2) := by decide +kernel
theorem dX12_goatsShakes_3 : decode cX12_goatsShakes 3 = .ok (.invokevirtual 351, 3) := by decide +kernel
theorem dX12_goatsShakes_6 : decode cX12_goatsShakes 6 = .ok (.aload_n 0, 1) := by decide +kernel
theorem dX12_goatsShakes_7 : decode cX12_goatsShakes 7 = .ok (.iload_n 1, 1) := by decide +kernel
theorem dX12_goatsShakes_8 : decode cX12_goatsShakes 8 = .ok (.invokevirtual 360, 3) := by decide +kernel
theorem dX12_goatsShakes_11 : decode cX12_goatsShakes 11 = .ok (.istore_n 2, 1) := by decide +kernel
theorem dX12_goatsShakes_12 : decode cX12_goatsShakes 12 = .ok (.iload_n 2, 1) := by decide +kernel
theorem dX12_goatsShakes_13 : decode cX12_goatsShakes 13 = .ok (.aload_n 0, 1) := by decide +kernel
theorem dX12_goatsShakes_14 : decode cX12_goatsShakes 14 = .ok (.iconst 1, 1) := by decide +kernel
theorem dX12_goatsShakes_15 : decode cX12_goatsShakes 15 = .ok (.invokevirtual 363, 3) := by decide +kernel
theorem dX12_goatsShakes_18 : decode cX12_goatsShakes 18 = .ok (.isub, 1) := by decide +kernel
theorem dX12_goatsShakes_19 : decode cX12_goatsShakes 19 = .ok (.ireturn, 1) := by decide +kernel
theorem dX12_shakes_0 : decode cX12_shakes 0 = .ok (.aload_n 0, 1) := by decide +kernel
theorem dX12_shakes_1 : decode cX12_shakes 1 = .ok (.getfield 348, 3) := by decide +kernel
theorem dX12_shakes_4 : decode cX12_shakes 4 = .ok (.iconst 4, 1) := by decide +kernel
theorem dX12_shakes_5 : decode cX12_shakes 5 = .ok (.if_icmp .ne 17, 3) := by decide +kernel
theorem dX12_shakes_8 : decode cX12_shakes 8 = .ok (.aload_n 0, 1) := by decide +kernel
theorem dX12_shakes_9 : decode cX12_shakes 9 = .ok (.bipush 50, 2) := by decide +kernel
theorem dX12_shakes_11 : decode cX12_shakes 11 = .ok (.invokevirtual 351, 3) := by decide +kernel
theorem dX12_shakes_14 : decode cX12_shakes 14 = .ok (.aload_n 0, 1) := by decide +kernel
theorem dX12_shakes_15 : decode cX12_shakes 15 = .ok (.iload_n 1, 1) := by decide +kernel
theorem dX12_shakes_16 : decode cX12_shakes 16 = .ok (.iconst 1, 1) := by decide +kernel
theorem dX12_shakes_17 : decode cX12_shakes 17 = .ok (.iadd, 1) := by decide +kernel
theorem dX12_shakes_18 : decode cX12_shakes 18 = .ok (.invokevirtual 366, 3) := by decide +kernel
theorem dX12_shakes_21 : decode cX12_shakes 21 = .ok (.ireturn, 1) := by decide +kernel
theorem dX12_shakes_22 : decode cX12_shakes 22 = .ok (.aload_n 0, 1) := by decide +kernel
theorem dX12_shakes_23 : decode cX12_shakes 23 = .ok (.getfield 348, 3) := by decide +kernel
theorem dX12_shakes_26 : decode cX12_shakes 26 = .ok (.iconst 1, 1) := by decide +kernel
theorem dX12_shakes_27 : decode cX12_shakes 27 = .ok (.if_icmp .ne 11, 3) := by decide +kernel
theorem dX12_shakes_30 : decode cX12_shakes 30 = .ok (.aload_n 0, 1) := by decide +kernel
theorem dX12_shakes_31 : decode cX12_shakes 31 = .ok (.iload_n 1, 1) := by decide +kernel
theorem dX12_shakes_32 : decode cX12_shakes 32 = .ok (.invokevirtual 366, 3) := by decide +kernel
theorem dX12_shakes_35 : decode cX12_shakes 35 = .ok (.goto 8, 3) := by decide +kernel
theorem dX12_shakes_38 : decode cX12_shakes 38 = .ok (.aload_n 0, 1) := by decide +kernel
theorem dX12_shakes_39 : decode cX12_shakes 39 = .ok (.iload_n 1, 1) := by decide +kernel
theorem dX12_shakes_40 : decode cX12_shakes 40 = .ok (.invokevirtual 360, 3) := by decide +kernel
theorem dX12_shakes_43 : decode cX12_shakes 43 = .ok (.ireturn, 1) := by decide +kernel
theorem dX12_plainCools_0 : decode cX12_plainCools 0 = .ok (.aload_n 0, 1) := by decide +kernel
theorem dX12_plainCools_1 : decode cX12_plainCools 1 = .ok (.bipush 12, 2) := by decide +kernel
theorem dX12_plainCools_3 : decode cX12_plainCools 3 = .ok (.invokevirtual 351, 3) := by decide +kernel
theorem dX12_plainCools_6 : decode cX12_plainCools 6 = .ok (.iload_n 1, 1) := by decide +kernel
theorem dX12_plainCools_7 : decode cX12_plainCools 7 = .ok (.aload_n 0, 1) := by decide +kernel
theorem dX12_plainCools_8 : decode cX12_plainCools 8 = .ok (.getfield 369, 3) := by decide +kernel
theorem dX12_plainCools_11 : decode cX12_plainCools 11 = .ok (.isub, 1) := by decide +kernel
theorem dX12_plainCools_12 : decode cX12_plainCools 12 = .ok (.ireturn, 1) := by decide +kernel
theorem dX12_creamedCools_0 : decode cX12_creamedCools 0 = .ok (.aload_n 0, 1) := by decide +kernel
theorem dX12_creamedCools_1 : decode cX12_creamedCools 1 = .ok (.bipush 40, 2) := by decide +kernel
theorem dX12_creamedCools_3 : decode cX12_creamedCools 3 = .ok (.invokevirtual 351, 3) := by decide +kernel
theorem dX12_creamedCools_6 : decode cX12_creamedCools 6 = .ok (.aload_n 0, 1) := by decide +kernel
theorem dX12_creamedCools_7 : decode cX12_creamedCools 7 = .ok (.iload_n 1, 1) := by decide +kernel
theorem dX12_creamedCools_8 : decode cX12_creamedCools 8 = .ok (.invokevirtual 372, 3) := by decide +kernel
theorem dX12_creamedCools_11 : decode cX12_creamedCools 11 = .ok (.ineg, 1) := by decide +kernel
theorem dX12_creamedCools_12 : decode cX12_creamedCools 12 = .ok (.ireturn, 1) := by decide +kernel
theorem dX12_cools_0 : decode cX12_cools 0 = .ok (.aload_n 0, 1) := by decide +kernel
theorem dX12_cools_1 : decode cX12_cools 1 = .ok (.getfield 348, 3) := by decide +kernel
theorem dX12_cools_4 : decode cX12_cools 4 = .ok (.bipush 6, 2) := by decide +kernel
theorem dX12_cools_6 : decode cX12_cools 6 = .ok (.if_icmp .ne 20, 3) := by decide +kernel
theorem dX12_cools_9 : decode cX12_cools 9 = .ok (.aload_n 0, 1) := by decide +kernel
theorem dX12_cools_10 : decode cX12_cools 10 = .ok (.bipush 70, 2) := by decide +kernel
theorem dX12_cools_12 : decode cX12_cools 12 = .ok (.invokevirtual 351, 3) := by decide +kernel
theorem dX12_cools_15 : decode cX12_cools 15 = .ok (.aload_n 0, 1) := by decide +kernel
theorem dX12_cools_16 : decode cX12_cools 16 = .ok (.iload_n 1, 1) := by decide +kernel
theorem dX12_cools_17 : decode cX12_cools 17 = .ok (.invokevirtual 375, 3) := by decide +kernel
theorem dX12_cools_20 : decode cX12_cools 20 = .ok (.aload_n 0, 1) := by decide +kernel
theorem dX12_cools_21 : decode cX12_cools 21 = .ok (.getfield 354, 3) := by decide +kernel
theorem dX12_cools_24 : decode cX12_cools 24 = .ok (.ixor, 1) := by decide +kernel
theorem dX12_cools_25 : decode cX12_cools 25 = .ok (.ireturn, 1) := by decide +kernel
theorem dX12_cools_26 : decode cX12_cools 26 = .ok (.aload_n 0, 1) := by decide +kernel
theorem dX12_cools_27 : decode cX12_cools 27 = .ok (.getfield 348, 3) := by decide +kernel
theorem dX12_cools_30 : decode cX12_cools 30 = .ok (.iconst 3, 1) := by decide +kernel
theorem dX12_cools_31 : decode cX12_cools 31 = .ok (.if_icmp .ne 11, 3) := by decide +kernel
theorem dX12_cools_34 : decode cX12_cools 34 = .ok (.aload_n 0, 1) := by decide +kernel
theorem dX12_cools_35 : decode cX12_cools 35 = .ok (.iload_n 1, 1) := by decide +kernel
theorem dX12_cools_36 : decode cX12_cools 36 = .ok (.invokevirtual 375, 3) := by decide +kernel
theorem dX12_cools_39 : decode cX12_cools 39 = .ok (.goto 8, 3) := by decide +kernel
theorem dX12_cools_42 : decode cX12_cools 42 = .ok (.aload_n 0, 1) := by decide +kernel
theorem dX12_cools_43 : decode cX12_cools 43 = .ok (.iload_n 1, 1) := by decide +kernel
theorem dX12_cools_44 : decode cX12_cools 44 = .ok (.invokevirtual 372, 3) := by decide +kernel
theorem dX12_cools_47 : decode cX12_cools 47 = .ok (.ireturn, 1) := by decide +kernel
theorem dX12_plainTells_0 : decode cX12_plainTells 0 = .ok (.aload_n 0, 1) := by decide +kernel
theorem dX12_plainTells_1 : decode cX12_plainTells 1 = .ok (.bipush 13, 2) := by decide +kernel
theorem dX12_plainTells_3 : decode cX12_plainTells 3 = .ok (.invokevirtual 351, 3) := by decide +kernel
theorem dX12_plainTells_6 : decode cX12_plainTells 6 = .ok (.aload_n 0, 1) := by decide +kernel
theorem dX12_plainTells_7 : decode cX12_plainTells 7 = .ok (.iload_n 1, 1) := by decide +kernel
theorem dX12_plainTells_8 : decode cX12_plainTells 8 = .ok (.invokevirtual 378, 3) := by decide +kernel
theorem dX12_plainTells_11 : decode cX12_plainTells 11 = .ok (.istore_n 2, 1) := by decide +kernel
theorem dX12_plainTells_12 : decode cX12_plainTells 12 = .ok (.iload_n 2, 1) := by decide +kernel
theorem dX12_plainTells_13 : decode cX12_plainTells 13 = .ok (.aload_n 0, 1) := by decide +kernel
theorem dX12_plainTells_14 : decode cX12_plainTells 14 = .ok (.iload_n 1, 1) := by decide +kernel
theorem dX12_plainTells_15 : decode cX12_plainTells 15 = .ok (.invokevirtual 363, 3) := by decide +kernel
theorem dX12_plainTells_18 : decode cX12_plainTells 18 = .ok (.ixor, 1) := by decide +kernel
theorem dX12_plainTells_19 : decode cX12_plainTells 19 = .ok (.ireturn, 1) := by decide +kernel
theorem dX12_tells_0 : decode cX12_tells 0 = .ok (.aload_n 0, 1) := by decide +kernel
theorem dX12_tells_1 : decode cX12_tells 1 = .ok (.getfield 348, 3) := by decide +kernel
theorem dX12_tells_4 : decode cX12_tells 4 = .ok (.iconst 5, 1) := by decide +kernel
theorem dX12_tells_5 : decode cX12_tells 5 = .ok (.if_icmp .ne 23, 3) := by decide +kernel
theorem dX12_tells_8 : decode cX12_tells 8 = .ok (.aload_n 0, 1) := by decide +kernel
theorem dX12_tells_9 : decode cX12_tells 9 = .ok (.bipush 60, 2) := by decide +kernel
theorem dX12_tells_11 : decode cX12_tells 11 = .ok (.invokevirtual 351, 3) := by decide +kernel
theorem dX12_tells_14 : decode cX12_tells 14 = .ok (.aload_n 0, 1) := by decide +kernel
theorem dX12_tells_15 : decode cX12_tells 15 = .ok (.iload_n 1, 1) := by decide +kernel
theorem dX12_tells_16 : decode cX12_tells 16 = .ok (.invokevirtual 381, 3) := by decide +kernel
theorem dX12_tells_19 : decode cX12_tells 19 = .ok (.istore_n 2, 1) := by decide +kernel
theorem dX12_tells_20 : decode cX12_tells 20 = .ok (.iload_n 2, 1) := by decide +kernel
theorem dX12_tells_21 : decode cX12_tells 21 = .ok (.aload_n 0, 1) := by decide +kernel
theorem dX12_tells_22 : decode cX12_tells 22 = .ok (.iconst 2, 1) := by decide +kernel
theorem dX12_tells_23 : decode cX12_tells 23 = .ok (.invokevirtual 357, 3) := by decide +kernel
theorem dX12_tells_26 : decode cX12_tells 26 = .ok (.isub, 1) := by decide +kernel
theorem dX12_tells_27 : decode cX12_tells 27 = .ok (.ireturn, 1) := by decide +kernel
theorem dX12_tells_28 : decode cX12_tells 28 = .ok (.aload_n 0, 1) := by decide +kernel
theorem dX12_tells_29 : decode cX12_tells 29 = .ok (.getfield 348, 3) := by decide +kernel
theorem dX12_tells_32 : decode cX12_tells 32 = .ok (.bipush 6, 2) := by decide +kernel
theorem dX12_tells_34 : decode cX12_tells 34 = .ok (.if_icmp .ne 23, 3) := by decide +kernel
theorem dX12_tells_37 : decode cX12_tells 37 = .ok (.aload_n 0, 1) := by decide +kernel
theorem dX12_tells_38 : decode cX12_tells 38 = .ok (.bipush 71, 2) := by decide +kernel
theorem dX12_tells_40 : decode cX12_tells 40 = .ok (.invokevirtual 351, 3) := by decide +kernel
theorem dX12_tells_43 : decode cX12_tells 43 = .ok (.aload_n 0, 1) := by decide +kernel
theorem dX12_tells_44 : decode cX12_tells 44 = .ok (.iload_n 1, 1) := by decide +kernel
theorem dX12_tells_45 : decode cX12_tells 45 = .ok (.invokevirtual 378, 3) := by decide +kernel
theorem dX12_tells_48 : decode cX12_tells 48 = .ok (.istore_n 2, 1) := by decide +kernel
theorem dX12_tells_49 : decode cX12_tells 49 = .ok (.iload_n 2, 1) := by decide +kernel
theorem dX12_tells_50 : decode cX12_tells 50 = .ok (.aload_n 0, 1) := by decide +kernel
theorem dX12_tells_51 : decode cX12_tells 51 = .ok (.iload_n 1, 1) := by decide +kernel
theorem dX12_tells_52 : decode cX12_tells 52 = .ok (.invokevirtual 381, 3) := by decide +kernel
theorem dX12_tells_55 : decode cX12_tells 55 = .ok (.isub, 1) := by decide +kernel
theorem dX12_tells_56 : decode cX12_tells 56 = .ok (.ireturn, 1) := by decide +kernel
theorem dX12_tells_57 : decode cX12_tells 57 = .ok (.aload_n 0, 1) := by decide +kernel
theorem dX12_tells_58 : decode cX12_tells 58 = .ok (.iload_n 1, 1) := by decide +kernel
theorem dX12_tells_59 : decode cX12_tells 59 = .ok (.invokevirtual 381, 3) := by decide +kernel
theorem dX12_tells_62 : decode cX12_tells 62 = .ok (.ireturn, 1) := by decide +kernel
theorem dX12_seed_0 : decode cX12_seed 0 = .ok (.aload_n 0, 1) := by decide +kernel
theorem dX12_seed_1 : decode cX12_seed 1 = .ok (.getfield 9, 3) := by decide +kernel
theorem dX12_seed_4 : decode cX12_seed 4 = .ok (.iconst 2, 1) := by decide +kernel
theorem dX12_seed_5 : decode cX12_seed 5 = .ok (.iaload, 1) := by decide +kernel
theorem dX12_seed_6 : decode cX12_seed 6 = .ok (.istore_n 2, 1) := by decide +kernel
theorem dX12_seed_7 : decode cX12_seed 7 = .ok (.aload_n 0, 1) := by decide +kernel
theorem dX12_seed_8 : decode cX12_seed 8 = .ok (.getfield 9, 3) := by decide +kernel
theorem dX12_seed_11 : decode cX12_seed 11 = .ok (.iconst 2, 1) := by decide +kernel
theorem dX12_seed_12 : decode cX12_seed 12 = .ok (.iload_n 1, 1) := by decide +kernel
theorem dX12_seed_13 : decode cX12_seed 13 = .ok (.iastore, 1) := by decide +kernel
theorem dX12_seed_14 : decode cX12_seed 14 = .ok (.iload_n 2, 1) := by decide +kernel
theorem dX12_seed_15 : decode cX12_seed 15 = .ok (.ireturn, 1) := by decide +kernel
theorem dX12_voice_0 : decode cX12_voice 0 = .ok (.aload_n 0, 1) := by decide +kernel
theorem dX12_voice_1 : decode cX12_voice 1 = .ok (.iload_n 1, 1) := by decide +kernel
theorem dX12_voice_2 : decode cX12_voice 2 = .ok (.invokevirtual 148, 3) := by decide +kernel
theorem dX12_voice_5 : decode cX12_voice 5 = .ok (.ifCond .eq 15, 3) := by decide +kernel
theorem dX12_voice_8 : decode cX12_voice 8 = .ok (.iload_n 2, 1) := by decide +kernel
theorem dX12_voice_9 : decode cX12_voice 9 = .ok (.i2l, 1) := by decide +kernel
theorem dX12_voice_10 : decode cX12_voice 10 = .ok (.lconst 0, 1) := by decide +kernel
theorem dX12_voice_11 : decode cX12_voice 11 = .ok (.ldc2_w 73, 3) := by decide +kernel
theorem dX12_voice_14 : decode cX12_voice 14 = .ok (.invokestatic 69, 3) := by decide +kernel
theorem dX12_voice_17 : decode cX12_voice 17 = .ok (.ifCond .ne 9, 3) := by decide +kernel
theorem dX12_voice_20 : decode cX12_voice 20 = .ok (.aload_n 0, 1) := by decide +kernel
theorem dX12_voice_21 : decode cX12_voice 21 = .ok (.iconst 1, 1) := by decide +kernel
theorem dX12_voice_22 : decode cX12_voice 22 = .ok (.invokevirtual 114, 3) := by decide +kernel
theorem dX12_voice_25 : decode cX12_voice 25 = .ok (.ireturn, 1) := by decide +kernel
theorem dX12_voice_26 : decode cX12_voice 26 = .ok (.aload_n 0, 1) := by decide +kernel
theorem dX12_voice_27 : decode cX12_voice 27 = .ok (.iconst 0, 1) := by decide +kernel
theorem dX12_voice_28 : decode cX12_voice 28 = .ok (.putfield 345, 3) := by decide +kernel
theorem dX12_voice_31 : decode cX12_voice 31 = .ok (.aload_n 0, 1) := by decide +kernel
theorem dX12_voice_32 : decode cX12_voice 32 = .ok (.aload_n 0, 1) := by decide +kernel
theorem dX12_voice_33 : decode cX12_voice 33 = .ok (.iload_n 1, 1) := by decide +kernel
theorem dX12_voice_34 : decode cX12_voice 34 = .ok (.iconst 0, 1) := by decide +kernel
theorem dX12_voice_35 : decode cX12_voice 35 = .ok (.invokevirtual 79, 3) := by decide +kernel
theorem dX12_voice_38 : decode cX12_voice 38 = .ok (.putfield 348, 3) := by decide +kernel
theorem dX12_voice_41 : decode cX12_voice 41 = .ok (.aload_n 0, 1) := by decide +kernel
theorem dX12_voice_42 : decode cX12_voice 42 = .ok (.iload_n 1, 1) := by decide +kernel
theorem dX12_voice_43 : decode cX12_voice 43 = .ok (.putfield 354, 3) := by decide +kernel
theorem dX12_voice_46 : decode cX12_voice 46 = .ok (.aload_n 0, 1) := by decide +kernel
theorem dX12_voice_47 : decode cX12_voice 47 = .ok (.aload_n 0, 1) := by decide +kernel
theorem dX12_voice_48 : decode cX12_voice 48 = .ok (.iload_n 1, 1) := by decide +kernel
theorem dX12_voice_49 : decode cX12_voice 49 = .ok (.iconst 1, 1) := by decide +kernel
theorem dX12_voice_50 : decode cX12_voice 50 = .ok (.invokevirtual 79, 3) := by decide +kernel
theorem dX12_voice_53 : decode cX12_voice 53 = .ok (.putfield 369, 3) := by decide +kernel
theorem dX12_voice_56 : decode cX12_voice 56 = .ok (.iload_n 2, 1) := by decide +kernel
theorem dX12_voice_57 : decode cX12_voice 57 = .ok (.ifCond .ne 11, 3) := by decide +kernel
theorem dX12_voice_60 : decode cX12_voice 60 = .ok (.aload_n 0, 1) := by decide +kernel
theorem dX12_voice_61 : decode cX12_voice 61 = .ok (.iload_n 3, 1) := by decide +kernel
theorem dX12_voice_62 : decode cX12_voice 62 = .ok (.invokevirtual 357, 3) := by decide +kernel
theorem dX12_voice_65 : decode cX12_voice 65 = .ok (.goto 34, 3) := by decide +kernel
theorem dX12_voice_68 : decode cX12_voice 68 = .ok (.iload_n 2, 1) := by decide +kernel
theorem dX12_voice_69 : decode cX12_voice 69 = .ok (.iconst 1, 1) := by decide +kernel
theorem dX12_voice_70 : decode cX12_voice 70 = .ok (.if_icmp .ne 11, 3) := by decide +kernel
theorem dX12_voice_73 : decode cX12_voice 73 = .ok (.aload_n 0, 1) := by decide +kernel
theorem dX12_voice_74 : decode cX12_voice 74 = .ok (.iload_n 3, 1) := by decide +kernel
theorem dX12_voice_75 : decode cX12_voice 75 = .ok (.invokevirtual 378, 3) := by decide +kernel
theorem dX12_voice_78 : decode cX12_voice 78 = .ok (.goto 21, 3) := by decide +kernel
theorem dX12_voice_81 : decode cX12_voice 81 = .ok (.iload_n 2, 1) := by decide +kernel
theorem dX12_voice_82 : decode cX12_voice 82 = .ok (.iconst 2, 1) := by decide +kernel
theorem dX12_voice_83 : decode cX12_voice 83 = .ok (.if_icmp .ne 11, 3) := by decide +kernel
theorem dX12_voice_86 : decode cX12_voice 86 = .ok (.aload_n 0, 1) := by decide +kernel
theorem dX12_voice_87 : decode cX12_voice 87 = .ok (.iload_n 3, 1) := by decide +kernel
theorem dX12_voice_88 : decode cX12_voice 88 = .ok (.invokevirtual 363, 3) := by decide +kernel
theorem dX12_voice_91 : decode cX12_voice 91 = .ok (.goto 8, 3) := by decide +kernel
theorem dX12_voice_94 : decode cX12_voice 94 = .ok (.aload_n 0, 1) := by decide +kernel
theorem dX12_voice_95 : decode cX12_voice 95 = .ok (.iload_n 3, 1) := by decide +kernel
theorem dX12_voice_96 : decode cX12_voice 96 = .ok (.invokevirtual 384, 3) := by decide +kernel
theorem dX12_voice_99 : decode cX12_voice 99 = .ok (.ireturn, 1) := by decide +kernel
theorem dX12_trace_0 : decode cX12_trace 0 = .ok (.iload_n 1, 1) := by decide +kernel
theorem dX12_trace_1 : decode cX12_trace 1 = .ok (.i2l, 1) := by decide +kernel
theorem dX12_trace_2 : decode cX12_trace 2 = .ok (.lconst 0, 1) := by decide +kernel
theorem dX12_trace_3 : decode cX12_trace 3 = .ok (.aload_n 0, 1) := by decide +kernel
theorem dX12_trace_4 : decode cX12_trace 4 = .ok (.getfield 345, 3) := by decide +kernel
theorem dX12_trace_7 : decode cX12_trace 7 = .ok (.iconst 1, 1) := by decide +kernel
theorem dX12_trace_8 : decode cX12_trace 8 = .ok (.isub, 1) := by decide +kernel
theorem dX12_trace_9 : decode cX12_trace 9 = .ok (.i2l, 1) := by decide +kernel
theorem dX12_trace_10 : decode cX12_trace 10 = .ok (.invokestatic 69, 3) := by decide +kernel
theorem dX12_trace_13 : decode cX12_trace 13 = .ok (.ifCond .eq 12, 3) := by decide +kernel
theorem dX12_trace_16 : decode cX12_trace 16 = .ok (.aload_n 0, 1) := by decide +kernel
theorem dX12_trace_17 : decode cX12_trace 17 = .ok (.getfield 38, 3) := by decide +kernel
theorem dX12_trace_20 : decode cX12_trace 20 = .ok (.iload_n 1, 1) := by decide +kernel
theorem dX12_trace_21 : decode cX12_trace 21 = .ok (.iaload, 1) := by decide +kernel
theorem dX12_trace_22 : decode cX12_trace 22 = .ok (.goto 8, 3) := by decide +kernel
theorem dX12_trace_25 : decode cX12_trace 25 = .ok (.aload_n 0, 1) := by decide +kernel
theorem dX12_trace_26 : decode cX12_trace 26 = .ok (.iconst 2, 1) := by decide +kernel
theorem dX12_trace_27 : decode cX12_trace 27 = .ok (.invokevirtual 114, 3) := by decide +kernel
theorem dX12_trace_30 : decode cX12_trace 30 = .ok (.ireturn, 1) := by decide +kernel
theorem dX12_isSheet_0 : decode cX12_isSheet 0 = .ok (.iload_n 0, 1) := by decide +kernel
theorem dX12_isSheet_1 : decode cX12_isSheet 1 = .ok (.i2l, 1) := by decide +kernel
theorem dX12_isSheet_2 : decode cX12_isSheet 2 = .ok (.lconst 0, 1) := by decide +kernel
theorem dX12_isSheet_3 : decode cX12_isSheet 3 = .ok (.ldc2_w 73, 3) := by decide +kernel
theorem dX12_isSheet_6 : decode cX12_isSheet 6 = .ok (.invokestatic 69, 3) := by decide +kernel
theorem dX12_isSheet_9 : decode cX12_isSheet 9 = .ok (.ireturn, 1) := by decide +kernel
theorem dX12_sheet_0 : decode cX12_sheet 0 = .ok (.iload_n 2, 1) := by decide +kernel
theorem dX12_sheet_1 : decode cX12_sheet 1 = .ok (.ifCond .eq 21, 3) := by decide +kernel
theorem dX12_sheet_4 : decode cX12_sheet 4 = .ok (.iload_n 2, 1) := by decide +kernel
theorem dX12_sheet_5 : decode cX12_sheet 5 = .ok (.bipush 8, 2) := by decide +kernel
theorem dX12_sheet_7 : decode cX12_sheet 7 = .ok (.if_icmp .eq 15, 3) := by decide +kernel
theorem dX12_sheet_10 : decode cX12_sheet 10 = .ok (.iload_n 2, 1) := by decide +kernel
theorem dX12_sheet_11 : decode cX12_sheet 11 = .ok (.bipush 16, 2) := by decide +kernel
theorem dX12_sheet_13 : decode cX12_sheet 13 = .ok (.if_icmp .eq 9, 3) := by decide +kernel
theorem dX12_sheet_16 : decode cX12_sheet 16 = .ok (.iload_n 2, 1) := by decide +kernel
theorem dX12_sheet_17 : decode cX12_sheet 17 = .ok (.bipush 32, 2) := by decide +kernel
theorem dX12_sheet_19 : decode cX12_sheet 19 = .ok (.if_icmp .ne 7, 3) := by decide +kernel
theorem dX12_sheet_22 : decode cX12_sheet 22 = .ok (.iconst 1, 1) := by decide +kernel
theorem dX12_sheet_23 : decode cX12_sheet 23 = .ok (.goto 4, 3) := by decide +kernel
theorem dX12_sheet_26 : decode cX12_sheet 26 = .ok (.iconst 0, 1) := by decide +kernel
theorem dX12_sheet_27 : decode cX12_sheet 27 = .ok (.istore 4, 2) := by decide +kernel
theorem dX12_sheet_29 : decode cX12_sheet 29 = .ok (.iload_n 1, 1) := by decide +kernel
theorem dX12_sheet_30 : decode cX12_sheet 30 = .ok (.invokestatic 387, 3) := by decide +kernel
theorem dX12_sheet_33 : decode cX12_sheet 33 = .ok (.ifCond .eq 8, 3) := by decide +kernel
theorem dX12_sheet_36 : decode cX12_sheet 36 = .ok (.iload 4, 2) := by decide +kernel
theorem dX12_sheet_38 : decode cX12_sheet 38 = .ok (.ifCond .ne 9, 3) := by decide +kernel
theorem dX12_sheet_41 : decode cX12_sheet 41 = .ok (.aload_n 0, 1) := by decide +kernel
theorem dX12_sheet_42 : decode cX12_sheet 42 = .ok (.iconst 1, 1) := by decide +kernel
theorem dX12_sheet_43 : decode cX12_sheet 43 = .ok (.invokevirtual 114, 3) := by decide +kernel
theorem dX12_sheet_46 : decode cX12_sheet 46 = .ok (.ireturn, 1) := by decide +kernel
theorem dX12_sheet_47 : decode cX12_sheet 47 = .ok (.iload_n 2, 1) := by decide +kernel
theorem dX12_sheet_48 : decode cX12_sheet 48 = .ok (.ifCond .le 13, 3) := by decide +kernel
theorem dX12_sheet_51 : decode cX12_sheet 51 = .ok (.iload_n 3, 1) := by decide +kernel
theorem dX12_sheet_52 : decode cX12_sheet 52 = .ok (.ifCond .ge 9, 3) := by decide +kernel
theorem dX12_sheet_55 : decode cX12_sheet 55 = .ok (.aload_n 0, 1) := by decide +kernel
theorem dX12_sheet_56 : decode cX12_sheet 56 = .ok (.iconst 3, 1) := by decide +kernel
theorem dX12_sheet_57 : decode cX12_sheet 57 = .ok (.invokevirtual 114, 3) := by decide +kernel
theorem dX12_sheet_60 : decode cX12_sheet 60 = .ok (.ireturn, 1) := by decide +kernel
theorem dX12_sheet_61 : decode cX12_sheet 61 = .ok (.iload_n 2, 1) := by decide +kernel
theorem dX12_sheet_62 : decode cX12_sheet 62 = .ok (.ifCond .le 15, 3) := by decide +kernel
theorem dX12_sheet_65 : decode cX12_sheet 65 = .ok (.iload_n 3, 1) := by decide +kernel
theorem dX12_sheet_66 : decode cX12_sheet 66 = .ok (.bipush 40, 2) := by decide +kernel
theorem dX12_sheet_68 : decode cX12_sheet 68 = .ok (.if_icmp .le 9, 3) := by decide +kernel
theorem dX12_sheet_71 : decode cX12_sheet 71 = .ok (.aload_n 0, 1) := by decide +kernel
theorem dX12_sheet_72 : decode cX12_sheet 72 = .ok (.iconst 1, 1) := by decide +kernel
theorem dX12_sheet_73 : decode cX12_sheet 73 = .ok (.invokevirtual 114, 3) := by decide +kernel
theorem dX12_sheet_76 : decode cX12_sheet 76 = .ok (.ireturn, 1) := by decide +kernel
theorem dX12_sheet_77 : decode cX12_sheet 77 = .ok (.aload_n 0, 1) := by decide +kernel
theorem dX12_sheet_78 : decode cX12_sheet 78 = .ok (.getfield 41, 3) := by decide +kernel
theorem dX12_sheet_81 : decode cX12_sheet 81 = .ok (.iload_n 1, 1) := by decide +kernel
theorem dX12_sheet_82 : decode cX12_sheet 82 = .ok (.iload_n 2, 1) := by decide +kernel
theorem dX12_sheet_83 : decode cX12_sheet 83 = .ok (.iastore, 1) := by decide +kernel
theorem dX12_sheet_84 : decode cX12_sheet 84 = .ok (.aload_n 0, 1) := by decide +kernel
theorem dX12_sheet_85 : decode cX12_sheet 85 = .ok (.getfield 44, 3) := by decide +kernel
theorem dX12_sheet_88 : decode cX12_sheet 88 = .ok (.iload_n 1, 1) := by decide +kernel
theorem dX12_sheet_89 : decode cX12_sheet 89 = .ok (.iload_n 2, 1) := by decide +kernel
theorem dX12_sheet_90 : decode cX12_sheet 90 = .ok (.ifCond .ne 7, 3) := by decide +kernel
theorem dX12_sheet_93 : decode cX12_sheet 93 = .ok (.iconst 0, 1) := by decide +kernel
theorem dX12_sheet_94 : decode cX12_sheet 94 = .ok (.goto 4, 3) := by decide +kernel
theorem dX12_sheet_97 : decode cX12_sheet 97 = .ok (.iload_n 3, 1) := by decide +kernel
theorem dX12_sheet_98 : decode cX12_sheet 98 = .ok (.iastore, 1) := by decide +kernel
theorem dX12_sheet_99 : decode cX12_sheet 99 = .ok (.iconst 0, 1) := by decide +kernel
theorem dX12_sheet_100 : decode cX12_sheet 100 = .ok (.istore 5, 2) := by decide +kernel
theorem dX12_sheet_102 : decode cX12_sheet 102 = .ok (.iload 5, 2) := by decide +kernel
theorem dX12_sheet_104 : decode cX12_sheet 104 = .ok (.bipush 40, 2) := by decide +kernel
theorem dX12_sheet_106 : decode cX12_sheet 106 = .ok (.if_icmp .ge 22, 3) := by decide +kernel
theorem dX12_sheet_109 : decode cX12_sheet 109 = .ok (.aload_n 0, 1) := by decide +kernel
theorem dX12_sheet_110 : decode cX12_sheet 110 = .ok (.getfield 47, 3) := by decide +kernel
theorem dX12_sheet_113 : decode cX12_sheet 113 = .ok (.bipush 40, 2) := by decide +kernel
theorem dX12_sheet_115 : decode cX12_sheet 115 = .ok (.iload_n 1, 1) := by decide +kernel
theorem dX12_sheet_116 : decode cX12_sheet 116 = .ok (.imul, 1) := by decide +kernel
theorem dX12_sheet_117 : decode cX12_sheet 117 = .ok (.iload 5, 2) := by decide +kernel
theorem dX12_sheet_119 : decode cX12_sheet 119 = .ok (.iadd, 1) := by decide +kernel
theorem dX12_sheet_120 : decode cX12_sheet 120 = .ok (.iconst 0, 1) := by decide +kernel
theorem dX12_sheet_121 : decode cX12_sheet 121 = .ok (.iastore, 1) := by decide +kernel
theorem dX12_sheet_122 : decode cX12_sheet 122 = .ok (.iinc 5 1, 3) := by decide +kernel
theorem dX12_sheet_125 : decode cX12_sheet 125 = .ok (.goto (-23), 3) := by decide +kernel
theorem dX12_sheet_128 : decode cX12_sheet 128 = .ok (.iconst 1, 1) := by decide +kernel
theorem dX12_sheet_129 : decode cX12_sheet 129 = .ok (.ireturn, 1) := by decide +kernel
theorem dX12_lacks_0 : decode cX12_lacks 0 = .ok (.iload_n 1, 1) := by decide +kernel
theorem dX12_lacks_1 : decode cX12_lacks 1 = .ok (.invokestatic 387, 3) := by decide +kernel
theorem dX12_lacks_4 : decode cX12_lacks 4 = .ok (.ifCond .ne 7, 3) := by decide +kernel
theorem dX12_lacks_7 : decode cX12_lacks 7 = .ok (.iconst 1, 1) := by decide +kernel
theorem dX12_lacks_8 : decode cX12_lacks 8 = .ok (.goto 17, 3) := by decide +kernel
theorem dX12_lacks_11 : decode cX12_lacks 11 = .ok (.aload_n 0, 1) := by decide +kernel
theorem dX12_lacks_12 : decode cX12_lacks 12 = .ok (.getfield 41, 3) := by decide +kernel
theorem dX12_lacks_15 : decode cX12_lacks 15 = .ok (.iload_n 1, 1) := by decide +kernel
theorem dX12_lacks_16 : decode cX12_lacks 16 = .ok (.iaload, 1) := by decide +kernel
theorem dX12_lacks_17 : decode cX12_lacks 17 = .ok (.ifCond .ne 7, 3) := by decide +kernel
theorem dX12_lacks_20 : decode cX12_lacks 20 = .ok (.iconst 2, 1) := by decide +kernel
theorem dX12_lacks_21 : decode cX12_lacks 21 = .ok (.goto 4, 3) := by decide +kernel
theorem dX12_lacks_24 : decode cX12_lacks 24 = .ok (.iconst 0, 1) := by decide +kernel
theorem dX12_lacks_25 : decode cX12_lacks 25 = .ok (.ireturn, 1) := by decide +kernel
theorem dX12_put_0 : decode cX12_put 0 = .ok (.aload_n 0, 1) := by decide +kernel
theorem dX12_put_1 : decode cX12_put 1 = .ok (.iload_n 1, 1) := by decide +kernel
theorem dX12_put_2 : decode cX12_put 2 = .ok (.invokevirtual 390, 3) := by decide +kernel
theorem dX12_put_5 : decode cX12_put 5 = .ok (.istore 4, 2) := by decide +kernel
theorem dX12_put_7 : decode cX12_put 7 = .ok (.iload 4, 2) := by decide +kernel
theorem dX12_put_9 : decode cX12_put 9 = .ok (.ifCond .le 10, 3) := by decide +kernel
theorem dX12_put_12 : decode cX12_put 12 = .ok (.aload_n 0, 1) := by decide +kernel
theorem dX12_put_13 : decode cX12_put 13 = .ok (.iload 4, 2) := by decide +kernel
theorem dX12_put_15 : decode cX12_put 15 = .ok (.invokevirtual 114, 3) := by decide +kernel
theorem dX12_put_18 : decode cX12_put 18 = .ok (.ireturn, 1) := by decide +kernel
theorem dX12_put_19 : decode cX12_put 19 = .ok (.iload_n 2, 1) := by decide +kernel
theorem dX12_put_20 : decode cX12_put 20 = .ok (.i2l, 1) := by decide +kernel
theorem dX12_put_21 : decode cX12_put 21 = .ok (.lconst 0, 1) := by decide +kernel
theorem dX12_put_22 : decode cX12_put 22 = .ok (.aload_n 0, 1) := by decide +kernel
theorem dX12_put_23 : decode cX12_put 23 = .ok (.getfield 44, 3) := by decide +kernel
theorem dX12_put_26 : decode cX12_put 26 = .ok (.iload_n 1, 1) := by decide +kernel
theorem dX12_put_27 : decode cX12_put 27 = .ok (.iaload, 1) := by decide +kernel
theorem dX12_put_28 : decode cX12_put 28 = .ok (.iconst 1, 1) := by decide +kernel
theorem dX12_put_29 : decode cX12_put 29 = .ok (.isub, 1) := by decide +kernel
theorem dX12_put_30 : decode cX12_put 30 = .ok (.i2l, 1) := by decide +kernel
theorem dX12_put_31 : decode cX12_put 31 = .ok (.invokestatic 69, 3) := by decide +kernel
theorem dX12_put_34 : decode cX12_put 34 = .ok (.ifCond .ne 9, 3) := by decide +kernel
theorem dX12_put_37 : decode cX12_put 37 = .ok (.aload_n 0, 1) := by decide +kernel
theorem dX12_put_38 : decode cX12_put 38 = .ok (.iconst 1, 1) := by decide +kernel
theorem dX12_put_39 : decode cX12_put 39 = .ok (.invokevirtual 114, 3) := by decide +kernel
theorem dX12_put_42 : decode cX12_put 42 = .ok (.ireturn, 1) := by decide +kernel
theorem dX12_put_43 : decode cX12_put 43 = .ok (.aload_n 0, 1) := by decide +kernel
theorem dX12_put_44 : decode cX12_put 44 = .ok (.getfield 47, 3) := by decide +kernel
theorem dX12_put_47 : decode cX12_put 47 = .ok (.bipush 40, 2) := by decide +kernel
theorem dX12_put_49 : decode cX12_put 49 = .ok (.iload_n 1, 1) := by decide +kernel
theorem dX12_put_50 : decode cX12_put 50 = .ok (.imul, 1) := by decide +kernel
theorem dX12_put_51 : decode cX12_put 51 = .ok (.iload_n 2, 1) := by decide +kernel
theorem dX12_put_52 : decode cX12_put 52 = .ok (.iadd, 1) := by decide +kernel
theorem dX12_put_53 : decode cX12_put 53 = .ok (.aload_n 0, 1) := by decide +kernel
theorem dX12_put_54 : decode cX12_put 54 = .ok (.getfield 41, 3) := by decide +kernel
theorem dX12_put_57 : decode cX12_put 57 = .ok (.iload_n 1, 1) := by decide +kernel
theorem dX12_put_58 : decode cX12_put 58 = .ok (.iaload, 1) := by decide +kernel
theorem dX12_put_59 : decode cX12_put 59 = .ok (.bipush 8, 2) := by decide +kernel
theorem dX12_put_61 : decode cX12_put 61 = .ok (.if_icmp .ne 8, 3) := by decide +kernel
theorem dX12_put_64 : decode cX12_put 64 = .ok (.iload_n 3, 1) := by decide +kernel
theorem dX12_put_65 : decode cX12_put 65 = .ok (.i2b, 1) := by decide +kernel
theorem dX12_put_66 : decode cX12_put 66 = .ok (.goto 20, 3) := by decide +kernel
theorem dX12_put_69 : decode cX12_put 69 = .ok (.aload_n 0, 1) := by decide +kernel
theorem dX12_put_70 : decode cX12_put 70 = .ok (.getfield 41, 3) := by decide +kernel
theorem dX12_put_73 : decode cX12_put 73 = .ok (.iload_n 1, 1) := by decide +kernel
theorem dX12_put_74 : decode cX12_put 74 = .ok (.iaload, 1) := by decide +kernel
theorem dX12_put_75 : decode cX12_put 75 = .ok (.bipush 16, 2) := by decide +kernel
theorem dX12_put_77 : decode cX12_put 77 = .ok (.if_icmp .ne 8, 3) := by decide +kernel
theorem dX12_put_80 : decode cX12_put 80 = .ok (.iload_n 3, 1) := by decide +kernel
theorem dX12_put_81 : decode cX12_put 81 = .ok (.i2s, 1) := by decide +kernel
theorem dX12_put_82 : decode cX12_put 82 = .ok (.goto 4, 3) := by decide +kernel
theorem dX12_put_85 : decode cX12_put 85 = .ok (.iload_n 3, 1) := by decide +kernel
theorem dX12_put_86 : decode cX12_put 86 = .ok (.iastore, 1) := by decide +kernel
theorem dX12_put_87 : decode cX12_put 87 = .ok (.iconst 1, 1) := by decide +kernel
theorem dX12_put_88 : decode cX12_put 88 = .ok (.ireturn, 1) := by decide +kernel
theorem dX12_move_0 : decode cX12_move 0 = .ok (.iload_n 1, 1) := by decide +kernel
theorem dX12_move_1 : decode cX12_move 1 = .ok (.invokestatic 387, 3) := by decide +kernel
theorem dX12_move_4 : decode cX12_move 4 = .ok (.ifCond .eq 10, 3) := by decide +kernel
theorem dX12_move_7 : decode cX12_move 7 = .ok (.iload_n 3, 1) := by decide +kernel
theorem dX12_move_8 : decode cX12_move 8 = .ok (.invokestatic 387, 3) := by decide +kernel
theorem dX12_move_11 : decode cX12_move 11 = .ok (.ifCond .ne 9, 3) := by decide +kernel
theorem dX12_move_14 : decode cX12_move 14 = .ok (.aload_n 0, 1) := by decide +kernel
theorem dX12_move_15 : decode cX12_move 15 = .ok (.iconst 1, 1) := by decide +kernel
theorem dX12_move_16 : decode cX12_move 16 = .ok (.invokevirtual 114, 3) := by decide +kernel
theorem dX12_move_19 : decode cX12_move 19 = .ok (.ireturn, 1) := by decide +kernel
theorem dX12_move_20 : decode cX12_move 20 = .ok (.aload_n 0, 1) := by decide +kernel
theorem dX12_move_21 : decode cX12_move 21 = .ok (.getfield 41, 3) := by decide +kernel
theorem dX12_move_24 : decode cX12_move 24 = .ok (.iload_n 1, 1) := by decide +kernel
theorem dX12_move_25 : decode cX12_move 25 = .ok (.iaload, 1) := by decide +kernel
theorem dX12_move_26 : decode cX12_move 26 = .ok (.ifCond .eq 12, 3) := by decide +kernel
theorem dX12_move_29 : decode cX12_move 29 = .ok (.aload_n 0, 1) := by decide +kernel
theorem dX12_move_30 : decode cX12_move 30 = .ok (.getfield 41, 3) := by decide +kernel
theorem dX12_move_33 : decode cX12_move 33 = .ok (.iload_n 3, 1) := by decide +kernel
theorem dX12_move_34 : decode cX12_move 34 = .ok (.iaload, 1) := by decide +kernel
theorem dX12_move_35 : decode cX12_move 35 = .ok (.ifCond .ne 9, 3) := by decide +kernel
theorem dX12_move_38 : decode cX12_move 38 = .ok (.aload_n 0, 1) := by decide +kernel
theorem dX12_move_39 : decode cX12_move 39 = .ok (.iconst 2, 1) := by decide +kernel
theorem dX12_move_40 : decode cX12_move 40 = .ok (.invokevirtual 114, 3) := by decide +kernel
theorem dX12_move_43 : decode cX12_move 43 = .ok (.ireturn, 1) := by decide +kernel
theorem dX12_move_44 : decode cX12_move 44 = .ok (.aload_n 0, 1) := by decide +kernel
theorem dX12_move_45 : decode cX12_move 45 = .ok (.getfield 41, 3) := by decide +kernel
theorem dX12_move_48 : decode cX12_move 48 = .ok (.iload_n 1, 1) := by decide +kernel
theorem dX12_move_49 : decode cX12_move 49 = .ok (.iaload, 1) := by decide +kernel
theorem dX12_move_50 : decode cX12_move 50 = .ok (.aload_n 0, 1) := by decide +kernel
theorem dX12_move_51 : decode cX12_move 51 = .ok (.getfield 41, 3) := by decide +kernel
theorem dX12_move_54 : decode cX12_move 54 = .ok (.iload_n 3, 1) := by decide +kernel
theorem dX12_move_55 : decode cX12_move 55 = .ok (.iaload, 1) := by decide +kernel
theorem dX12_move_56 : decode cX12_move 56 = .ok (.if_icmp .eq 9, 3) := by decide +kernel
theorem dX12_move_59 : decode cX12_move 59 = .ok (.aload_n 0, 1) := by decide +kernel
theorem dX12_move_60 : decode cX12_move 60 = .ok (.iconst 5, 1) := by decide +kernel
theorem dX12_move_61 : decode cX12_move 61 = .ok (.invokevirtual 114, 3) := by decide +kernel
theorem dX12_move_64 : decode cX12_move 64 = .ok (.ireturn, 1) := by decide +kernel
theorem dX12_move_65 : decode cX12_move 65 = .ok (.iload 5, 2) := by decide +kernel
theorem dX12_move_67 : decode cX12_move 67 = .ok (.ifCond .lt 51, 3) := by decide +kernel
theorem dX12_move_70 : decode cX12_move 70 = .ok (.iload_n 2, 1) := by decide +kernel
theorem dX12_move_71 : decode cX12_move 71 = .ok (.ifCond .lt 47, 3) := by decide +kernel
theorem dX12_move_74 : decode cX12_move 74 = .ok (.iload 4, 2) := by decide +kernel
theorem dX12_move_76 : decode cX12_move 76 = .ok (.ifCond .lt 42, 3) := by decide +kernel
theorem dX12_move_79 : decode cX12_move 79 = .ok (.iload_n 2, 1) := by decide +kernel
theorem dX12_move_80 : decode cX12_move 80 = .ok (.i2l, 1) := by decide +kernel
theorem dX12_move_81 : decode cX12_move 81 = .ok (.iload 5, 2) := by decide +kernel
theorem dX12_move_83 : decode cX12_move 83 = .ok (.i2l, 1) := by decide +kernel
theorem dX12_move_84 : decode cX12_move 84 = .ok (.ladd, 1) := by decide +kernel
theorem dX12_move_85 : decode cX12_move 85 = .ok (.aload_n 0, 1) := by decide +kernel
theorem dX12_move_86 : decode cX12_move 86 = .ok (.getfield 44, 3) := by decide +kernel
theorem dX12_move_89 : decode cX12_move 89 = .ok (.iload_n 1, 1) := by decide +kernel
theorem dX12_move_90 : decode cX12_move 90 = .ok (.iaload, 1) := by decide +kernel
theorem dX12_move_91 : decode cX12_move 91 = .ok (.i2l, 1) := by decide +kernel
theorem dX12_move_92 : decode cX12_move 92 = .ok (.lcmp, 1) := by decide +kernel
theorem dX12_move_93 : decode cX12_move 93 = .ok (.ifCond .gt 25, 3) := by decide +kernel
theorem dX12_move_96 : decode cX12_move 96 = .ok (.iload 4, 2) := by decide +kernel
theorem dX12_move_98 : decode cX12_move 98 = .ok (.i2l, 1) := by decide +kernel
theorem dX12_move_99 : decode cX12_move 99 = .ok (.iload 5, 2) := by decide +kernel
theorem dX12_move_101 : decode cX12_move 101 = .ok (.i2l, 1) := by decide +kernel
theorem dX12_move_102 : decode cX12_move 102 = .ok (.ladd, 1) := by decide +kernel
theorem dX12_move_103 : decode cX12_move 103 = .ok (.aload_n 0, 1) := by decide +kernel
theorem dX12_move_104 : decode cX12_move 104 = .ok (.getfield 44, 3) := by decide +kernel
theorem dX12_move_107 : decode cX12_move 107 = .ok (.iload_n 3, 1) := by decide +kernel
theorem dX12_move_108 : decode cX12_move 108 = .ok (.iaload, 1) := by decide +kernel
theorem dX12_move_109 : decode cX12_move 109 = .ok (.i2l, 1) := by decide +kernel
theorem dX12_move_110 : decode cX12_move 110 = .ok (.lcmp, 1) := by decide +kernel
theorem dX12_move_111 : decode cX12_move 111 = .ok (.ifCond .gt 7, 3) := by decide +kernel
theorem dX12_move_114 : decode cX12_move 114 = .ok (.iconst 1, 1) := by decide +kernel
theorem dX12_move_115 : decode cX12_move 115 = .ok (.goto 4, 3) := by decide +kernel
theorem dX12_move_118 : decode cX12_move 118 = .ok (.iconst 0, 1) := by decide +kernel
theorem dX12_move_119 : decode cX12_move 119 = .ok (.istore 6, 2) := by decide +kernel
theorem dX12_move_121 : decode cX12_move 121 = .ok (.iload 6, 2) := by decide +kernel
theorem dX12_move_123 : decode cX12_move 123 = .ok (.ifCond .ne 9, 3) := by decide +kernel
theorem dX12_move_126 : decode cX12_move 126 = .ok (.aload_n 0, 1) := by decide +kernel
theorem dX12_move_127 : decode cX12_move 127 = .ok (.iconst 1, 1) := by decide +kernel
theorem dX12_move_128 : decode cX12_move 128 = .ok (.invokevirtual 114, 3) := by decide +kernel
theorem dX12_move_131 : decode cX12_move 131 = .ok (.ireturn, 1) := by decide +kernel
theorem dX12_move_132 : decode cX12_move 132 = .ok (.iconst 0, 1) := by decide +kernel
theorem dX12_move_133 : decode cX12_move 133 = .ok (.istore 7, 2) := by decide +kernel
theorem dX12_move_135 : decode cX12_move 135 = .ok (.iload 7, 2) := by decide +kernel
theorem dX12_move_137 : decode cX12_move 137 = .ok (.iload 5, 2) := by decide +kernel
theorem dX12_move_139 : decode cX12_move 139 = .ok (.if_icmp .ge 30, 3) := by decide +kernel
theorem dX12_move_142 : decode cX12_move 142 = .ok (.aload_n 0, 1) := by decide +kernel
theorem dX12_move_143 : decode cX12_move 143 = .ok (.getfield 50, 3) := by decide +kernel
theorem dX12_move_146 : decode cX12_move 146 = .ok (.iload 7, 2) := by decide +kernel
theorem dX12_move_148 : decode cX12_move 148 = .ok (.aload_n 0, 1) := by decide +kernel
theorem dX12_move_149 : decode cX12_move 149 = .ok (.getfield 47, 3) := by decide +kernel
theorem dX12_move_152 : decode cX12_move 152 = .ok (.bipush 40, 2) := by decide +kernel
theorem dX12_move_154 : decode cX12_move 154 = .ok (.iload_n 1, 1) := by decide +kernel
theorem dX12_move_155 : decode cX12_move 155 = .ok (.imul, 1) := by decide +kernel
theorem dX12_move_156 : decode cX12_move 156 = .ok (.iload_n 2, 1) := by decide +kernel
theorem dX12_move_157 : decode cX12_move 157 = .ok (.iadd, 1) := by decide +kernel
theorem dX12_move_158 : decode cX12_move 158 = .ok (.iload 7, 2) := by decide +kernel
theorem dX12_move_160 : decode cX12_move 160 = .ok (.iadd, 1) := by decide +kernel
theorem dX12_move_161 : decode cX12_move 161 = .ok (.iaload, 1) := by decide +kernel
theorem dX12_move_162 : decode cX12_move 162 = .ok (.iastore, 1) := by decide +kernel
theorem dX12_move_163 : decode cX12_move 163 = .ok (.iinc 7 1, 3) := by decide +kernel
theorem dX12_move_166 : decode cX12_move 166 = .ok (.goto (-31), 3) := by decide +kernel
theorem dX12_move_169 : decode cX12_move 169 = .ok (.iconst 0, 1) := by decide +kernel
theorem dX12_move_170 : decode cX12_move 170 = .ok (.istore 7, 2) := by decide +kernel
theorem dX12_move_172 : decode cX12_move 172 = .ok (.iload 7, 2) := by decide +kernel
theorem dX12_move_174 : decode cX12_move 174 = .ok (.iload 5, 2) := by decide +kernel
theorem dX12_move_176 : decode cX12_move 176 = .ok (.if_icmp .ge 31, 3) := by decide +kernel
theorem dX12_move_179 : decode cX12_move 179 = .ok (.aload_n 0, 1) := by decide +kernel
theorem dX12_move_180 : decode cX12_move 180 = .ok (.getfield 47, 3) := by decide +kernel
theorem dX12_move_183 : decode cX12_move 183 = .ok (.bipush 40, 2) := by decide +kernel
theorem dX12_move_185 : decode cX12_move 185 = .ok (.iload_n 3, 1) := by decide +kernel
theorem dX12_move_186 : decode cX12_move 186 = .ok (.imul, 1) := by decide +kernel
theorem dX12_move_187 : decode cX12_move 187 = .ok (.iload 4, 2) := by decide +kernel
theorem dX12_move_189 : decode cX12_move 189 = .ok (.iadd, 1) := by decide +kernel
theorem dX12_move_190 : decode cX12_move 190 = .ok (.iload 7, 2) := by decide +kernel
theorem dX12_move_192 : decode cX12_move 192 = .ok (.iadd, 1) := by decide +kernel
theorem dX12_move_193 : decode cX12_move 193 = .ok (.aload_n 0, 1) := by decide +kernel
theorem dX12_move_194 : decode cX12_move 194 = .ok (.getfield 50, 3) := by decide +kernel
theorem dX12_move_197 : decode cX12_move 197 = .ok (.iload 7, 2) := by decide +kernel
theorem dX12_move_199 : decode cX12_move 199 = .ok (.iaload, 1) := by decide +kernel
theorem dX12_move_200 : decode cX12_move 200 = .ok (.iastore, 1) := by decide +kernel
theorem dX12_move_201 : decode cX12_move 201 = .ok (.iinc 7 1, 3) := by decide +kernel
theorem dX12_move_204 : decode cX12_move 204 = .ok (.goto (-32), 3) := by decide +kernel
theorem dX12_move_207 : decode cX12_move 207 = .ok (.iload 5, 2) := by decide +kernel
theorem dX12_move_209 : decode cX12_move 209 = .ok (.ireturn, 1) := by decide +kernel
theorem dX12_heats_0 : decode cX12_heats 0 = .ok (.aload_n 0, 1) := by decide +kernel
theorem dX12_heats_1 : decode cX12_heats 1 = .ok (.iload_n 1, 1) := by decide +kernel
theorem dX12_heats_2 : decode cX12_heats 2 = .ok (.invokevirtual 390, 3) := by decide +kernel
theorem dX12_heats_5 : decode cX12_heats 5 = .ok (.istore_n 2, 1) := by decide +kernel
theorem dX12_heats_6 : decode cX12_heats 6 = .ok (.iload_n 2, 1) := by decide +kernel
theorem dX12_heats_7 : decode cX12_heats 7 = .ok (.ifCond .le 9, 3) := by decide +kernel
theorem dX12_heats_10 : decode cX12_heats 10 = .ok (.aload_n 0, 1) := by decide +kernel
theorem dX12_heats_11 : decode cX12_heats 11 = .ok (.iload_n 2, 1) := by decide +kernel
theorem dX12_heats_12 : decode cX12_heats 12 = .ok (.invokevirtual 114, 3) := by decide +kernel
theorem dX12_heats_15 : decode cX12_heats 15 = .ok (.ireturn, 1) := by decide +kernel
theorem dX12_heats_16 : decode cX12_heats 16 = .ok (.iconst 0, 1) := by decide +kernel
theorem dX12_heats_17 : decode cX12_heats 17 = .ok (.istore_n 3, 1) := by decide +kernel
theorem dX12_heats_18 : decode cX12_heats 18 = .ok (.iload_n 3, 1) := by decide +kernel
theorem dX12_heats_19 : decode cX12_heats 19 = .ok (.aload_n 0, 1) := by decide +kernel
theorem dX12_heats_20 : decode cX12_heats 20 = .ok (.getfield 44, 3) := by decide +kernel
theorem dX12_heats_23 : decode cX12_heats 23 = .ok (.iload_n 1, 1) := by decide +kernel
theorem dX12_heats_24 : decode cX12_heats 24 = .ok (.iaload, 1) := by decide +kernel
theorem dX12_heats_25 : decode cX12_heats 25 = .ok (.if_icmp .ge 61, 3) := by decide +kernel
theorem dX12_heats_28 : decode cX12_heats 28 = .ok (.iload_n 3, 1) := by decide +kernel
theorem dX12_heats_29 : decode cX12_heats 29 = .ok (.bipush 9, 2) := by decide +kernel
theorem dX12_heats_31 : decode cX12_heats 31 = .ok (.if_icmp .ge 55, 3) := by decide +kernel
theorem dX12_heats_34 : decode cX12_heats 34 = .ok (.aload_n 0, 1) := by decide +kernel
theorem dX12_heats_35 : decode cX12_heats 35 = .ok (.getfield 47, 3) := by decide +kernel
theorem dX12_heats_38 : decode cX12_heats 38 = .ok (.bipush 40, 2) := by decide +kernel
theorem dX12_heats_40 : decode cX12_heats 40 = .ok (.iload_n 1, 1) := by decide +kernel
theorem dX12_heats_41 : decode cX12_heats 41 = .ok (.imul, 1) := by decide +kernel
theorem dX12_heats_42 : decode cX12_heats 42 = .ok (.iload_n 3, 1) := by decide +kernel
theorem dX12_heats_43 : decode cX12_heats 43 = .ok (.iadd, 1) := by decide +kernel
theorem dX12_heats_44 : decode cX12_heats 44 = .ok (.iaload, 1) := by decide +kernel
theorem dX12_heats_45 : decode cX12_heats 45 = .ok (.i2l, 1) := by decide +kernel
theorem dX12_heats_46 : decode cX12_heats 46 = .ok (.lconst 0, 1) := by decide +kernel
theorem dX12_heats_47 : decode cX12_heats 47 = .ok (.ldc2_w 393, 3) := by decide +kernel
theorem dX12_heats_50 : decode cX12_heats 50 = .ok (.invokestatic 69, 3) := by decide +kernel
theorem dX12_heats_53 : decode cX12_heats 53 = .ok (.ifCond .eq 33, 3) := by decide +kernel
theorem dX12_heats_56 : decode cX12_heats 56 = .ok (.aload_n 0, 1) := by decide +kernel
theorem dX12_heats_57 : decode cX12_heats 57 = .ok (.getfield 9, 3) := by decide +kernel
theorem dX12_heats_60 : decode cX12_heats 60 = .ok (.bipush 6, 2) := by decide +kernel
theorem dX12_heats_62 : decode cX12_heats 62 = .ok (.iconst 3, 1) := by decide +kernel
theorem dX12_heats_63 : decode cX12_heats 63 = .ok (.iload_n 3, 1) := by decide +kernel
theorem dX12_heats_64 : decode cX12_heats 64 = .ok (.imul, 1) := by decide +kernel
theorem dX12_heats_65 : decode cX12_heats 65 = .ok (.iadd, 1) := by decide +kernel
theorem dX12_heats_66 : decode cX12_heats 66 = .ok (.iconst 0, 1) := by decide +kernel
theorem dX12_heats_67 : decode cX12_heats 67 = .ok (.iadd, 1) := by decide +kernel
theorem dX12_heats_68 : decode cX12_heats 68 = .ok (.aload_n 0, 1) := by decide +kernel
theorem dX12_heats_69 : decode cX12_heats 69 = .ok (.getfield 47, 3) := by decide +kernel
theorem dX12_heats_72 : decode cX12_heats 72 = .ok (.bipush 40, 2) := by decide +kernel
theorem dX12_heats_74 : decode cX12_heats 74 = .ok (.iload_n 1, 1) := by decide +kernel
theorem dX12_heats_75 : decode cX12_heats 75 = .ok (.imul, 1) := by decide +kernel
theorem dX12_heats_76 : decode cX12_heats 76 = .ok (.iload_n 3, 1) := by decide +kernel
theorem dX12_heats_77 : decode cX12_heats 77 = .ok (.iadd, 1) := by decide +kernel
theorem dX12_heats_78 : decode cX12_heats 78 = .ok (.iaload, 1) := by decide +kernel
theorem dX12_heats_79 : decode cX12_heats 79 = .ok (.iastore, 1) := by decide +kernel
theorem dX12_heats_80 : decode cX12_heats 80 = .ok (.iinc 3 1, 3) := by decide +kernel
theorem dX12_heats_83 : decode cX12_heats 83 = .ok (.goto (-65), 3) := by decide +kernel
theorem dX12_heats_86 : decode cX12_heats 86 = .ok (.iload_n 3, 1) := by decide +kernel
theorem dX12_heats_87 : decode cX12_heats 87 = .ok (.ireturn, 1) := by decide +kernel
theorem dX12_judge_0 : decode cX12_judge 0 = .ok (.aload_n 0, 1) := by decide +kernel
theorem dX12_judge_1 : decode cX12_judge 1 = .ok (.iload_n 1, 1) := by decide +kernel
theorem dX12_judge_2 : decode cX12_judge 2 = .ok (.invokevirtual 390, 3) := by decide +kernel
theorem dX12_judge_5 : decode cX12_judge 5 = .ok (.istore_n 2, 1) := by decide +kernel
theorem dX12_judge_6 : decode cX12_judge 6 = .ok (.iload_n 2, 1) := by decide +kernel
theorem dX12_judge_7 : decode cX12_judge 7 = .ok (.ifCond .le 9, 3) := by decide +kernel
theorem dX12_judge_10 : decode cX12_judge 10 = .ok (.aload_n 0, 1) := by decide +kernel
theorem dX12_judge_11 : decode cX12_judge 11 = .ok (.iload_n 2, 1) := by decide +kernel
theorem dX12_judge_12 : decode cX12_judge 12 = .ok (.invokevirtual 114, 3) := by decide +kernel
theorem dX12_judge_15 : decode cX12_judge 15 = .ok (.ireturn, 1) := by decide +kernel
theorem dX12_judge_16 : decode cX12_judge 16 = .ok (.iconst 0, 1) := by decide +kernel
theorem dX12_judge_17 : decode cX12_judge 17 = .ok (.istore_n 3, 1) := by decide +kernel
theorem dX12_judge_18 : decode cX12_judge 18 = .ok (.iload_n 3, 1) := by decide +kernel
theorem dX12_judge_19 : decode cX12_judge 19 = .ok (.aload_n 0, 1) := by decide +kernel
theorem dX12_judge_20 : decode cX12_judge 20 = .ok (.getfield 9, 3) := by decide +kernel
theorem dX12_judge_23 : decode cX12_judge 23 = .ok (.iconst 3, 1) := by decide +kernel
theorem dX12_judge_24 : decode cX12_judge 24 = .ok (.iaload, 1) := by decide +kernel
theorem dX12_judge_25 : decode cX12_judge 25 = .ok (.if_icmp .ge 38, 3) := by decide +kernel
theorem dX12_judge_28 : decode cX12_judge 28 = .ok (.iload_n 3, 1) := by decide +kernel
theorem dX12_judge_29 : decode cX12_judge 29 = .ok (.aload_n 0, 1) := by decide +kernel
theorem dX12_judge_30 : decode cX12_judge 30 = .ok (.getfield 44, 3) := by decide +kernel
theorem dX12_judge_33 : decode cX12_judge 33 = .ok (.iload_n 1, 1) := by decide +kernel
theorem dX12_judge_34 : decode cX12_judge 34 = .ok (.iaload, 1) := by decide +kernel
theorem dX12_judge_35 : decode cX12_judge 35 = .ok (.if_icmp .ge 28, 3) := by decide +kernel
theorem dX12_judge_38 : decode cX12_judge 38 = .ok (.aload_n 0, 1) := by decide +kernel
theorem dX12_judge_39 : decode cX12_judge 39 = .ok (.getfield 47, 3) := by decide +kernel
theorem dX12_judge_42 : decode cX12_judge 42 = .ok (.bipush 40, 2) := by decide +kernel
theorem dX12_judge_44 : decode cX12_judge 44 = .ok (.iload_n 1, 1) := by decide +kernel
theorem dX12_judge_45 : decode cX12_judge 45 = .ok (.imul, 1) := by decide +kernel
theorem dX12_judge_46 : decode cX12_judge 46 = .ok (.iload_n 3, 1) := by decide +kernel
theorem dX12_judge_47 : decode cX12_judge 47 = .ok (.iadd, 1) := by decide +kernel
theorem dX12_judge_48 : decode cX12_judge 48 = .ok (.iaload, 1) := by decide +kernel
theorem dX12_judge_49 : decode cX12_judge 49 = .ok (.aload_n 0, 1) := by decide +kernel
theorem dX12_judge_50 : decode cX12_judge 50 = .ok (.iload_n 3, 1) := by decide +kernel
theorem dX12_judge_51 : decode cX12_judge 51 = .ok (.invokevirtual 154, 3) := by decide +kernel
theorem dX12_judge_54 : decode cX12_judge 54 = .ok (.if_icmp .ne 9, 3) := by decide +kernel
theorem dX12_judge_57 : decode cX12_judge 57 = .ok (.iinc 3 1, 3) := by decide +kernel
theorem dX12_judge_60 : decode cX12_judge 60 = .ok (.goto (-42), 3) := by decide +kernel
theorem dX12_judge_63 : decode cX12_judge 63 = .ok (.iload_n 3, 1) := by decide +kernel
theorem dX12_judge_64 : decode cX12_judge 64 = .ok (.aload_n 0, 1) := by decide +kernel
theorem dX12_judge_65 : decode cX12_judge 65 = .ok (.getfield 9, 3) := by decide +kernel
theorem dX12_judge_68 : decode cX12_judge 68 = .ok (.iconst 3, 1) := by decide +kernel
theorem dX12_judge_69 : decode cX12_judge 69 = .ok (.iaload, 1) := by decide +kernel
theorem dX12_judge_70 : decode cX12_judge 70 = .ok (.if_icmp .ne 17, 3) := by decide +kernel
theorem dX12_judge_73 : decode cX12_judge 73 = .ok (.iload_n 3, 1) := by decide +kernel
theorem dX12_judge_74 : decode cX12_judge 74 = .ok (.aload_n 0, 1) := by decide +kernel
theorem dX12_judge_75 : decode cX12_judge 75 = .ok (.getfield 44, 3) := by decide +kernel
theorem dX12_judge_78 : decode cX12_judge 78 = .ok (.iload_n 1, 1) := by decide +kernel
theorem dX12_judge_79 : decode cX12_judge 79 = .ok (.iaload, 1) := by decide +kernel
theorem dX12_judge_80 : decode cX12_judge 80 = .ok (.if_icmp .ne 7, 3) := by decide +kernel
theorem dX12_judge_83 : decode cX12_judge 83 = .ok (.iconst (-1), 1) := by decide +kernel
theorem dX12_judge_84 : decode cX12_judge 84 = .ok (.goto 4, 3) := by decide +kernel
theorem dX12_judge_87 : decode cX12_judge 87 = .ok (.iload_n 3, 1) := by decide +kernel
theorem dX12_judge_88 : decode cX12_judge 88 = .ok (.ireturn, 1) := by decide +kernel
theorem dX12_image_0 : decode cX12_image 0 = .ok (.aload_n 0, 1) := by decide +kernel
theorem dX12_image_1 : decode cX12_image 1 = .ok (.getfield 9, 3) := by decide +kernel
theorem dX12_image_4 : decode cX12_image 4 = .ok (.aload_n 0, 1) := by decide +kernel
theorem dX12_image_5 : decode cX12_image 5 = .ok (.getfield 13, 3) := by decide +kernel
theorem dX12_image_8 : decode cX12_image 8 = .ok (.invokestatic 63, 3) := by decide +kernel
theorem dX12_image_11 : decode cX12_image 11 = .ok (.aload_n 0, 1) := by decide +kernel
theorem dX12_image_12 : decode cX12_image 12 = .ok (.iconst 1, 1) := by decide +kernel
theorem dX12_image_13 : decode cX12_image 13 = .ok (.putfield 395, 3) := by decide +kernel
theorem dX12_image_16 : decode cX12_image 16 = .ok (.aload_n 0, 1) := by decide +kernel
theorem dX12_image_17 : decode cX12_image 17 = .ok (.dup, 1) := by decide +kernel
theorem dX12_image_18 : decode cX12_image 18 = .ok (.getfield 398, 3) := by decide +kernel
theorem dX12_image_21 : decode cX12_image 21 = .ok (.iconst 1, 1) := by decide +kernel
theorem dX12_image_22 : decode cX12_image 22 = .ok (.iadd, 1) := by decide +kernel
theorem dX12_image_23 : decode cX12_image 23 = .ok (.putfield 398, 3) := by decide +kernel
theorem dX12_image_26 : decode cX12_image 26 = .ok (.aload_n 0, 1) := by decide +kernel
theorem dX12_image_27 : decode cX12_image 27 = .ok (.getfield 398, 3) := by decide +kernel
theorem dX12_image_30 : decode cX12_image 30 = .ok (.ireturn, 1) := by decide +kernel
theorem dX12_restore_0 : decode cX12_restore 0 = .ok (.aload_n 0, 1) := by decide +kernel
theorem dX12_restore_1 : decode cX12_restore 1 = .ok (.getfield 395, 3) := by decide +kernel
theorem dX12_restore_4 : decode cX12_restore 4 = .ok (.ifCond .ne 9, 3) := by decide +kernel
theorem dX12_restore_7 : decode cX12_restore 7 = .ok (.aload_n 0, 1) := by decide +kernel
theorem dX12_restore_8 : decode cX12_restore 8 = .ok (.iconst 2, 1) := by decide +kernel
theorem dX12_restore_9 : decode cX12_restore 9 = .ok (.invokevirtual 114, 3) := by decide +kernel
theorem dX12_restore_12 : decode cX12_restore 12 = .ok (.ireturn, 1) := by decide +kernel
theorem dX12_restore_13 : decode cX12_restore 13 = .ok (.aload_n 0, 1) := by decide +kernel
theorem dX12_restore_14 : decode cX12_restore 14 = .ok (.getfield 13, 3) := by decide +kernel
theorem dX12_restore_17 : decode cX12_restore 17 = .ok (.aload_n 0, 1) := by decide +kernel
theorem dX12_restore_18 : decode cX12_restore 18 = .ok (.getfield 9, 3) := by decide +kernel
theorem dX12_restore_21 : decode cX12_restore 21 = .ok (.invokestatic 63, 3) := by decide +kernel
theorem dX12_restore_24 : decode cX12_restore 24 = .ok (.aload_n 0, 1) := by decide +kernel
theorem dX12_restore_25 : decode cX12_restore 25 = .ok (.getfield 9, 3) := by decide +kernel
theorem dX12_restore_28 : decode cX12_restore 28 = .ok (.iconst 0, 1) := by decide +kernel
theorem dX12_restore_29 : decode cX12_restore 29 = .ok (.iaload, 1) := by decide +kernel
theorem dX12_restore_30 : decode cX12_restore 30 = .ok (.ireturn, 1) := by decide +kernel
theorem dX12_tell_0 : decode cX12_tell 0 = .ok (.aload_n 0, 1) := by decide +kernel
theorem dX12_tell_1 : decode cX12_tell 1 = .ok (.getfield 9, 3) := by decide +kernel
theorem dX12_tell_4 : decode cX12_tell 4 = .ok (.iconst 5, 1) := by decide +kernel
theorem dX12_tell_5 : decode cX12_tell 5 = .ok (.iaload, 1) := by decide +kernel
theorem dX12_tell_6 : decode cX12_tell 6 = .ok (.bipush 20, 2) := by decide +kernel
theorem dX12_tell_8 : decode cX12_tell 8 = .ok (.if_icmp .ne 9, 3) := by decide +kernel
theorem dX12_tell_11 : decode cX12_tell 11 = .ok (.aload_n 0, 1) := by decide +kernel
theorem dX12_tell_12 : decode cX12_tell 12 = .ok (.iconst 4, 1) := by decide +kernel
theorem dX12_tell_13 : decode cX12_tell 13 = .ok (.invokevirtual 114, 3) := by decide +kernel
theorem dX12_tell_16 : decode cX12_tell 16 = .ok (.ireturn, 1) := by decide +kernel
theorem dX12_tell_17 : decode cX12_tell 17 = .ok (.aload_n 0, 1) := by decide +kernel
theorem dX12_tell_18 : decode cX12_tell 18 = .ok (.getfield 9, 3) := by decide +kernel
theorem dX12_tell_21 : decode cX12_tell 21 = .ok (.sipush 247, 3) := by decide +kernel
theorem dX12_tell_24 : decode cX12_tell 24 = .ok (.aload_n 0, 1) := by decide +kernel
theorem dX12_tell_25 : decode cX12_tell 25 = .ok (.getfield 9, 3) := by decide +kernel
theorem dX12_tell_28 : decode cX12_tell 28 = .ok (.iconst 5, 1) := by decide +kernel
theorem dX12_tell_29 : decode cX12_tell 29 = .ok (.iaload, 1) := by decide +kernel
theorem dX12_tell_30 : decode cX12_tell 30 = .ok (.iadd, 1) := by decide +kernel
theorem dX12_tell_31 : decode cX12_tell 31 = .ok (.iload_n 1, 1) := by decide +kernel
theorem dX12_tell_32 : decode cX12_tell 32 = .ok (.iastore, 1) := by decide +kernel
theorem dX12_tell_33 : decode cX12_tell 33 = .ok (.aload_n 0, 1) := by decide +kernel
theorem dX12_tell_34 : decode cX12_tell 34 = .ok (.getfield 9, 3) := by decide +kernel
theorem dX12_tell_37 : decode cX12_tell 37 = .ok (.iconst 5, 1) := by decide +kernel
theorem dX12_tell_38 : decode cX12_tell 38 = .ok (.dup2, 1) := by decide +kernel
theorem dX12_tell_39 : decode cX12_tell 39 = .ok (.iaload, 1) := by decide +kernel
theorem dX12_tell_40 : decode cX12_tell 40 = .ok (.iconst 1, 1) := by decide +kernel
theorem dX12_tell_41 : decode cX12_tell 41 = .ok (.iadd, 1) := by decide +kernel
theorem dX12_tell_42 : decode cX12_tell 42 = .ok (.iastore, 1) := by decide +kernel
theorem dX12_tell_43 : decode cX12_tell 43 = .ok (.aload_n 0, 1) := by decide +kernel
theorem dX12_tell_44 : decode cX12_tell 44 = .ok (.getfield 9, 3) := by decide +kernel
theorem dX12_tell_47 : decode cX12_tell 47 = .ok (.iconst 5, 1) := by decide +kernel
theorem dX12_tell_48 : decode cX12_tell 48 = .ok (.iaload, 1) := by decide +kernel
theorem dX12_tell_49 : decode cX12_tell 49 = .ok (.ireturn, 1) := by decide +kernel
theorem dX12_allSour_0 : decode cX12_allSour 0 = .ok (.iconst 0, 1) := by decide +kernel
theorem dX12_allSour_1 : decode cX12_allSour 1 = .ok (.istore_n 1, 1) := by decide +kernel
theorem dX12_allSour_2 : decode cX12_allSour 2 = .ok (.iconst 0, 1) := by decide +kernel
theorem dX12_allSour_3 : decode cX12_allSour 3 = .ok (.istore_n 2, 1) := by decide +kernel
theorem dX12_allSour_4 : decode cX12_allSour 4 = .ok (.iload_n 2, 1) := by decide +kernel
theorem dX12_allSour_5 : decode cX12_allSour 5 = .ok (.aload_n 0, 1) := by decide +kernel
theorem dX12_allSour_6 : decode cX12_allSour 6 = .ok (.getfield 9, 3) := by decide +kernel
theorem dX12_allSour_9 : decode cX12_allSour 9 = .ok (.iconst 3, 1) := by decide +kernel
theorem dX12_allSour_10 : decode cX12_allSour 10 = .ok (.iaload, 1) := by decide +kernel
theorem dX12_allSour_11 : decode cX12_allSour 11 = .ok (.if_icmp .ge 18, 3) := by decide +kernel
theorem dX12_allSour_14 : decode cX12_allSour 14 = .ok (.iload_n 1, 1) := by decide +kernel
theorem dX12_allSour_15 : decode cX12_allSour 15 = .ok (.aload_n 0, 1) := by decide +kernel
theorem dX12_allSour_16 : decode cX12_allSour 16 = .ok (.iload_n 2, 1) := by decide +kernel
theorem dX12_allSour_17 : decode cX12_allSour 17 = .ok (.iconst 5, 1) := by decide +kernel
theorem dX12_allSour_18 : decode cX12_allSour 18 = .ok (.invokevirtual 79, 3) := by decide +kernel
theorem dX12_allSour_21 : decode cX12_allSour 21 = .ok (.iadd, 1) := by decide +kernel
theorem dX12_allSour_22 : decode cX12_allSour 22 = .ok (.istore_n 1, 1) := by decide +kernel
theorem dX12_allSour_23 : decode cX12_allSour 23 = .ok (.iinc 2 1, 3) := by decide +kernel
theorem dX12_allSour_26 : decode cX12_allSour 26 = .ok (.goto (-22), 3) := by decide +kernel
theorem dX12_allSour_29 : decode cX12_allSour 29 = .ok (.iload_n 1, 1) := by decide +kernel
theorem dX12_allSour_30 : decode cX12_allSour 30 = .ok (.ireturn, 1) := by decide +kernel
theorem dX12_check_0 : decode cX12_check 0 = .ok (.aload_n 0, 1) := by decide +kernel
theorem dX12_check_1 : decode cX12_check 1 = .ok (.invokevirtual 277, 3) := by decide +kernel
theorem dX12_check_4 : decode cX12_check 4 = .ok (.iconst (-1), 1) := by decide +kernel
theorem dX12_check_5 : decode cX12_check 5 = .ok (.istore_n 1, 1) := by decide +kernel
theorem dX12_check_6 : decode cX12_check 6 = .ok (.iconst 0, 1) := by decide +kernel
theorem dX12_check_7 : decode cX12_check 7 = .ok (.istore_n 2, 1) := by decide +kernel
theorem dX12_check_8 : decode cX12_check 8 = .ok (.iload_n 2, 1) := by decide +kernel
theorem dX12_check_9 : decode cX12_check 9 = .ok (.aload_n 0, 1) := by decide +kernel
theorem dX12_check_10 : decode cX12_check 10 = .ok (.getfield 9, 3) := by decide +kernel
theorem dX12_check_13 : decode cX12_check 13 = .ok (.iconst 5, 1) := by decide +kernel
theorem dX12_check_14 : decode cX12_check 14 = .ok (.iaload, 1) := by decide +kernel
theorem dX12_check_15 : decode cX12_check 15 = .ok (.if_icmp .ge 40, 3) := by decide +kernel
theorem dX12_check_18 : decode cX12_check 18 = .ok (.iload_n 1, 1) := by decide +kernel
theorem dX12_check_19 : decode cX12_check 19 = .ok (.ifCond .ge 36, 3) := by decide +kernel
theorem dX12_check_22 : decode cX12_check 22 = .ok (.aload_n 0, 1) := by decide +kernel
theorem dX12_check_23 : decode cX12_check 23 = .ok (.invokevirtual 265, 3) := by decide +kernel
theorem dX12_check_26 : decode cX12_check 26 = .ok (.aload_n 0, 1) := by decide +kernel
theorem dX12_check_27 : decode cX12_check 27 = .ok (.getfield 9, 3) := by decide +kernel
theorem dX12_check_30 : decode cX12_check 30 = .ok (.sipush 247, 3) := by decide +kernel
theorem dX12_check_33 : decode cX12_check 33 = .ok (.iload_n 2, 1) := by decide +kernel
theorem dX12_check_34 : decode cX12_check 34 = .ok (.iadd, 1) := by decide +kernel
theorem dX12_check_35 : decode cX12_check 35 = .ok (.iaload, 1) := by decide +kernel
theorem dX12_check_36 : decode cX12_check 36 = .ok (.aload_n 0, 1) := by decide +kernel
theorem dX12_check_37 : decode cX12_check 37 = .ok (.invokevirtual 401, 3) := by decide +kernel
theorem dX12_check_40 : decode cX12_check 40 = .ok (.if_icmp .ne 7, 3) := by decide +kernel
theorem dX12_check_43 : decode cX12_check 43 = .ok (.iconst (-1), 1) := by decide +kernel
theorem dX12_check_44 : decode cX12_check 44 = .ok (.goto 4, 3) := by decide +kernel
theorem dX12_check_47 : decode cX12_check 47 = .ok (.iload_n 2, 1) := by decide +kernel
theorem dX12_check_48 : decode cX12_check 48 = .ok (.istore_n 1, 1) := by decide +kernel
theorem dX12_check_49 : decode cX12_check 49 = .ok (.iinc 2 1, 3) := by decide +kernel
theorem dX12_check_52 : decode cX12_check 52 = .ok (.goto (-44), 3) := by decide +kernel
theorem dX12_check_55 : decode cX12_check 55 = .ok (.aload_n 0, 1) := by decide +kernel
theorem dX12_check_56 : decode cX12_check 56 = .ok (.invokevirtual 280, 3) := by decide +kernel
theorem dX12_check_59 : decode cX12_check 59 = .ok (.aload_n 0, 1) := by decide +kernel
theorem dX12_check_60 : decode cX12_check 60 = .ok (.getfield 9, 3) := by decide +kernel
theorem dX12_check_63 : decode cX12_check 63 = .ok (.iconst 5, 1) := by decide +kernel
theorem dX12_check_64 : decode cX12_check 64 = .ok (.iconst 0, 1) := by decide +kernel
theorem dX12_check_65 : decode cX12_check 65 = .ok (.iastore, 1) := by decide +kernel
theorem dX12_check_66 : decode cX12_check 66 = .ok (.iload_n 1, 1) := by decide +kernel
theorem dX12_check_67 : decode cX12_check 67 = .ok (.iconst 1, 1) := by decide +kernel
theorem dX12_check_68 : decode cX12_check 68 = .ok (.iadd, 1) := by decide +kernel
theorem dX12_check_69 : decode cX12_check 69 = .ok (.ireturn, 1) := by decide +kernel
theorem dX12_howMany_0 : decode cX12_howMany 0 = .ok (.iconst 0, 1) := by decide +kernel
theorem dX12_howMany_1 : decode cX12_howMany 1 = .ok (.istore_n 2, 1) := by decide +kernel
theorem dX12_howMany_2 : decode cX12_howMany 2 = .ok (.iconst 0, 1) := by decide +kernel
theorem dX12_howMany_3 : decode cX12_howMany 3 = .ok (.istore_n 3, 1) := by decide +kernel
theorem dX12_howMany_4 : decode cX12_howMany 4 = .ok (.iload_n 3, 1) := by decide +kernel
theorem dX12_howMany_5 : decode cX12_howMany 5 = .ok (.aload_n 0, 1) := by decide +kernel
theorem dX12_howMany_6 : decode cX12_howMany 6 = .ok (.getfield 9, 3) := by decide +kernel
theorem dX12_howMany_9 : decode cX12_howMany 9 = .ok (.iconst 3, 1) := by decide +kernel
theorem dX12_howMany_10 : decode cX12_howMany 10 = .ok (.iaload, 1) := by decide +kernel
theorem dX12_howMany_11 : decode cX12_howMany 11 = .ok (.if_icmp .ge 27, 3) := by decide +kernel
theorem dX12_howMany_14 : decode cX12_howMany 14 = .ok (.iload_n 2, 1) := by decide +kernel
theorem dX12_howMany_15 : decode cX12_howMany 15 = .ok (.aload_n 0, 1) := by decide +kernel
theorem dX12_howMany_16 : decode cX12_howMany 16 = .ok (.iload_n 3, 1) := by decide +kernel
theorem dX12_howMany_17 : decode cX12_howMany 17 = .ok (.iconst 3, 1) := by decide +kernel
theorem dX12_howMany_18 : decode cX12_howMany 18 = .ok (.invokevirtual 79, 3) := by decide +kernel
theorem dX12_howMany_21 : decode cX12_howMany 21 = .ok (.iload_n 1, 1) := by decide +kernel
theorem dX12_howMany_22 : decode cX12_howMany 22 = .ok (.if_icmp .ne 7, 3) := by decide +kernel
theorem dX12_howMany_25 : decode cX12_howMany 25 = .ok (.iconst 1, 1) := by decide +kernel
theorem dX12_howMany_26 : decode cX12_howMany 26 = .ok (.goto 4, 3) := by decide +kernel
theorem dX12_howMany_29 : decode cX12_howMany 29 = .ok (.iconst 0, 1) := by decide +kernel
theorem dX12_howMany_30 : decode cX12_howMany 30 = .ok (.iadd, 1) := by decide +kernel
theorem dX12_howMany_31 : decode cX12_howMany 31 = .ok (.istore_n 2, 1) := by decide +kernel
theorem dX12_howMany_32 : decode cX12_howMany 32 = .ok (.iinc 3 1, 3) := by decide +kernel
theorem dX12_howMany_35 : decode cX12_howMany 35 = .ok (.goto (-31), 3) := by decide +kernel
theorem dX12_howMany_38 : decode cX12_howMany 38 = .ok (.iload_n 2, 1) := by decide +kernel
theorem dX12_howMany_39 : decode cX12_howMany 39 = .ok (.ireturn, 1) := by decide +kernel
theorem dX12_sweet_0 : decode cX12_sweet 0 = .ok (.iconst 0, 1) := by decide +kernel
theorem dX12_sweet_1 : decode cX12_sweet 1 = .ok (.istore_n 1, 1) := by decide +kernel
theorem dX12_sweet_2 : decode cX12_sweet 2 = .ok (.iconst 0, 1) := by decide +kernel
theorem dX12_sweet_3 : decode cX12_sweet 3 = .ok (.istore_n 2, 1) := by decide +kernel
theorem dX12_sweet_4 : decode cX12_sweet 4 = .ok (.iload_n 2, 1) := by decide +kernel
theorem dX12_sweet_5 : decode cX12_sweet 5 = .ok (.aload_n 0, 1) := by decide +kernel
theorem dX12_sweet_6 : decode cX12_sweet 6 = .ok (.getfield 9, 3) := by decide +kernel
theorem dX12_sweet_9 : decode cX12_sweet 9 = .ok (.iconst 3, 1) := by decide +kernel
theorem dX12_sweet_10 : decode cX12_sweet 10 = .ok (.iaload, 1) := by decide +kernel
theorem dX12_sweet_11 : decode cX12_sweet 11 = .ok (.if_icmp .ge 25, 3) := by decide +kernel
theorem dX12_sweet_14 : decode cX12_sweet 14 = .ok (.iload_n 1, 1) := by decide +kernel
theorem dX12_sweet_15 : decode cX12_sweet 15 = .ok (.aload_n 0, 1) := by decide +kernel
theorem dX12_sweet_16 : decode cX12_sweet 16 = .ok (.iload_n 2, 1) := by decide +kernel
theorem dX12_sweet_17 : decode cX12_sweet 17 = .ok (.invokevirtual 154, 3) := by decide +kernel
theorem dX12_sweet_20 : decode cX12_sweet 20 = .ok (.ifCond .ne 7, 3) := by decide +kernel
theorem dX12_sweet_23 : decode cX12_sweet 23 = .ok (.iconst 1, 1) := by decide +kernel
theorem dX12_sweet_24 : decode cX12_sweet 24 = .ok (.goto 4, 3) := by decide +kernel
theorem dX12_sweet_27 : decode cX12_sweet 27 = .ok (.iconst 0, 1) := by decide +kernel
theorem dX12_sweet_28 : decode cX12_sweet 28 = .ok (.iadd, 1) := by decide +kernel
theorem dX12_sweet_29 : decode cX12_sweet 29 = .ok (.istore_n 1, 1) := by decide +kernel
theorem dX12_sweet_30 : decode cX12_sweet 30 = .ok (.iinc 2 1, 3) := by decide +kernel
theorem dX12_sweet_33 : decode cX12_sweet 33 = .ok (.goto (-29), 3) := by decide +kernel
theorem dX12_sweet_36 : decode cX12_sweet 36 = .ok (.iload_n 1, 1) := by decide +kernel
theorem dX12_sweet_37 : decode cX12_sweet 37 = .ok (.ireturn, 1) := by decide +kernel
theorem dX12_count_0 : decode cX12_count 0 = .ok (.iload_n 1, 1) := by decide +kernel
theorem dX12_count_1 : decode cX12_count 1 = .ok (.tableswitch 119 0 9 #[55, 62, 69, 76, 82, 88, 93, 100, 107, 112], 55) := by decide +kernel
theorem dX12_count_56 : decode cX12_count 56 = .ok (.aload_n 0, 1) := by decide +kernel
theorem dX12_count_57 : decode cX12_count 57 = .ok (.getfield 9, 3) := by decide +kernel
theorem dX12_count_60 : decode cX12_count 60 = .ok (.iconst 3, 1) := by decide +kernel
theorem dX12_count_61 : decode cX12_count 61 = .ok (.iaload, 1) := by decide +kernel
theorem dX12_count_62 : decode cX12_count 62 = .ok (.ireturn, 1) := by decide +kernel
theorem dX12_count_63 : decode cX12_count 63 = .ok (.aload_n 0, 1) := by decide +kernel
theorem dX12_count_64 : decode cX12_count 64 = .ok (.getfield 9, 3) := by decide +kernel
theorem dX12_count_67 : decode cX12_count 67 = .ok (.iconst 0, 1) := by decide +kernel
theorem dX12_count_68 : decode cX12_count 68 = .ok (.iaload, 1) := by decide +kernel
theorem dX12_count_69 : decode cX12_count 69 = .ok (.ireturn, 1) := by decide +kernel
theorem dX12_count_70 : decode cX12_count 70 = .ok (.aload_n 0, 1) := by decide +kernel
theorem dX12_count_71 : decode cX12_count 71 = .ok (.getfield 9, 3) := by decide +kernel
theorem dX12_count_74 : decode cX12_count 74 = .ok (.iconst 1, 1) := by decide +kernel
theorem dX12_count_75 : decode cX12_count 75 = .ok (.iaload, 1) := by decide +kernel
theorem dX12_count_76 : decode cX12_count 76 = .ok (.ireturn, 1) := by decide +kernel
theorem dX12_count_77 : decode cX12_count 77 = .ok (.aload_n 0, 1) := by decide +kernel
theorem dX12_count_78 : decode cX12_count 78 = .ok (.iconst 3, 1) := by decide +kernel
theorem dX12_count_79 : decode cX12_count 79 = .ok (.invokevirtual 404, 3) := by decide +kernel
theorem dX12_count_82 : decode cX12_count 82 = .ok (.ireturn, 1) := by decide +kernel
theorem dX12_count_83 : decode cX12_count 83 = .ok (.aload_n 0, 1) := by decide +kernel
theorem dX12_count_84 : decode cX12_count 84 = .ok (.iconst 2, 1) := by decide +kernel
theorem dX12_count_85 : decode cX12_count 85 = .ok (.invokevirtual 404, 3) := by decide +kernel
theorem dX12_count_88 : decode cX12_count 88 = .ok (.ireturn, 1) := by decide +kernel
theorem dX12_count_89 : decode cX12_count 89 = .ok (.aload_n 0, 1) := by decide +kernel
theorem dX12_count_90 : decode cX12_count 90 = .ok (.invokevirtual 407, 3) := by decide +kernel
theorem dX12_count_93 : decode cX12_count 93 = .ok (.ireturn, 1) := by decide +kernel
theorem dX12_count_94 : decode cX12_count 94 = .ok (.aload_n 0, 1) := by decide +kernel
theorem dX12_count_95 : decode cX12_count 95 = .ok (.getfield 9, 3) := by decide +kernel
theorem dX12_count_98 : decode cX12_count 98 = .ok (.iconst 4, 1) := by decide +kernel
theorem dX12_count_99 : decode cX12_count 99 = .ok (.iaload, 1) := by decide +kernel
theorem dX12_count_100 : decode cX12_count 100 = .ok (.ireturn, 1) := by decide +kernel
theorem dX12_count_101 : decode cX12_count 101 = .ok (.aload_n 0, 1) := by decide +kernel
theorem dX12_count_102 : decode cX12_count 102 = .ok (.getfield 9, 3) := by decide +kernel
theorem dX12_count_105 : decode cX12_count 105 = .ok (.iconst 5, 1) := by decide +kernel
theorem dX12_count_106 : decode cX12_count 106 = .ok (.iaload, 1) := by decide +kernel
theorem dX12_count_107 : decode cX12_count 107 = .ok (.ireturn, 1) := by decide +kernel
theorem dX12_count_108 : decode cX12_count 108 = .ok (.aload_n 0, 1) := by decide +kernel
theorem dX12_count_109 : decode cX12_count 109 = .ok (.getfield 345, 3) := by decide +kernel
theorem dX12_count_112 : decode cX12_count 112 = .ok (.ireturn, 1) := by decide +kernel
theorem dX12_count_113 : decode cX12_count 113 = .ok (.aload_n 0, 1) := by decide +kernel
theorem dX12_count_114 : decode cX12_count 114 = .ok (.getfield 9, 3) := by decide +kernel
theorem dX12_count_117 : decode cX12_count 117 = .ok (.iconst 2, 1) := by decide +kernel
theorem dX12_count_118 : decode cX12_count 118 = .ok (.iaload, 1) := by decide +kernel
theorem dX12_count_119 : decode cX12_count 119 = .ok (.ireturn, 1) := by decide +kernel
theorem dX12_count_120 : decode cX12_count 120 = .ok (.aload_n 0, 1) := by decide +kernel
theorem dX12_count_121 : decode cX12_count 121 = .ok (.iconst 1, 1) := by decide +kernel
theorem dX12_count_122 : decode cX12_count 122 = .ok (.invokevirtual 114, 3) := by decide +kernel
theorem dX12_count_125 : decode cX12_count 125 = .ok (.ireturn, 1) := by decide +kernel
theorem dX12_told__0 : decode cX12_told_ 0 = .ok (.iload_n 1, 1) := by decide +kernel
theorem dX12_told__1 : decode cX12_told_ 1 = .ok (.i2l, 1) := by decide +kernel
theorem dX12_told__2 : decode cX12_told_ 2 = .ok (.lconst 1, 1) := by decide +kernel
theorem dX12_told__3 : decode cX12_told_ 3 = .ok (.ldc2_w 410, 3) := by decide +kernel
theorem dX12_told__6 : decode cX12_told_ 6 = .ok (.invokestatic 69, 3) := by decide +kernel
theorem dX12_told__9 : decode cX12_told_ 9 = .ok (.ifCond .eq 12, 3) := by decide +kernel
theorem dX12_told__12 : decode cX12_told_ 12 = .ok (.aload_n 0, 1) := by decide +kernel
theorem dX12_told__13 : decode cX12_told_ 13 = .ok (.getfield 19, 3) := by decide +kernel
theorem dX12_told__16 : decode cX12_told_ 16 = .ok (.iload_n 1, 1) := by decide +kernel
theorem dX12_told__17 : decode cX12_told_ 17 = .ok (.iaload, 1) := by decide +kernel
theorem dX12_told__18 : decode cX12_told_ 18 = .ok (.goto 8, 3) := by decide +kernel
theorem dX12_told__21 : decode cX12_told_ 21 = .ok (.aload_n 0, 1) := by decide +kernel
theorem dX12_told__22 : decode cX12_told_ 22 = .ok (.iconst 1, 1) := by decide +kernel
theorem dX12_told__23 : decode cX12_told_ 23 = .ok (.invokevirtual 114, 3) := by decide +kernel
theorem dX12_told__26 : decode cX12_told_ 26 = .ok (.ireturn, 1) := by decide +kernel
