theorem dX11_init_0 : decode cX11_init 0 = .ok (.aload_n 0, 1) := by decide +kernel
theorem dX11_init_1 : decode cX11_init 1 = .ok (.invokespecial 1, 3) := by decide +kernel
theorem dX11_init_4 : decode cX11_init 4 = .ok (.aload_n 0, 1) := by decide +kernel
theorem dX11_init_5 : decode cX11_init 5 = .ok (.bipush 7, 2) := by decide +kernel
theorem dX11_init_7 : decode cX11_init 7 = .ok (.anewarray 7, 3) := by decide +kernel
theorem dX11_init_10 : decode cX11_init 10 = .ok (.dup, 1) := by decide +kernel
theorem dX11_init_11 : decode cX11_init 11 = .ok (.iconst 0, 1) := by decide +kernel
theorem dX11_init_12 : decode cX11_init 12 = .ok (.new 7, 3) := by decide +kernel
theorem dX11_init_15 : decode cX11_init 15 = .ok (.dup, 1) := by decide +kernel
theorem dX11_init_16 : decode cX11_init 16 = .ok (.iconst 0, 1) := by decide +kernel
theorem dX11_init_17 : decode cX11_init 17 = .ok (.invokespecial 9, 3) := by decide +kernel
theorem dX11_init_20 : decode cX11_init 20 = .ok (.aastore, 1) := by decide +kernel
theorem dX11_init_21 : decode cX11_init 21 = .ok (.dup, 1) := by decide +kernel
theorem dX11_init_22 : decode cX11_init 22 = .ok (.iconst 1, 1) := by decide +kernel
theorem dX11_init_23 : decode cX11_init 23 = .ok (.new 12, 3) := by decide +kernel
theorem dX11_init_26 : decode cX11_init 26 = .ok (.dup, 1) := by decide +kernel
theorem dX11_init_27 : decode cX11_init 27 = .ok (.iconst 1, 1) := by decide +kernel
theorem dX11_init_28 : decode cX11_init 28 = .ok (.invokespecial 14, 3) := by decide +kernel
theorem dX11_init_31 : decode cX11_init 31 = .ok (.aastore, 1) := by decide +kernel
theorem dX11_init_32 : decode cX11_init 32 = .ok (.dup, 1) := by decide +kernel
theorem dX11_init_33 : decode cX11_init 33 = .ok (.iconst 2, 1) := by decide +kernel
theorem dX11_init_34 : decode cX11_init 34 = .ok (.new 15, 3) := by decide +kernel
theorem dX11_init_37 : decode cX11_init 37 = .ok (.dup, 1) := by decide +kernel
theorem dX11_init_38 : decode cX11_init 38 = .ok (.iconst 2, 1) := by decide +kernel
theorem dX11_init_39 : decode cX11_init 39 = .ok (.invokespecial 17, 3) := by decide +kernel
theorem dX11_init_42 : decode cX11_init 42 = .ok (.aastore, 1) := by decide +kernel
theorem dX11_init_43 : decode cX11_init 43 = .ok (.dup, 1) := by decide +kernel
theorem dX11_init_44 : decode cX11_init 44 = .ok (.iconst 3, 1) := by decide +kernel
theorem dX11_init_45 : decode cX11_init 45 = .ok (.new 18, 3) := by decide +kernel
theorem dX11_init_48 : decode cX11_init 48 = .ok (.dup, 1) := by decide +kernel
theorem dX11_init_49 : decode cX11_init 49 = .ok (.iconst 3, 1) := by decide +kernel
theorem dX11_init_50 : decode cX11_init 50 = .ok (.invokespecial 20, 3) := by decide +kernel
theorem dX11_init_53 : decode cX11_init 53 = .ok (.aastore, 1) := by decide +kernel
theorem dX11_init_54 : decode cX11_init 54 = .ok (.dup, 1) := by decide +kernel
theorem dX11_init_55 : decode cX11_init 55 = .ok (.iconst 4, 1) := by decide +kernel
theorem dX11_init_56 : decode cX11_init 56 = .ok (.new 21, 3) := by decide +kernel
theorem dX11_init_59 : decode cX11_init 59 = .ok (.dup, 1) := by decide +kernel
theorem dX11_init_60 : decode cX11_init 60 = .ok (.iconst 4, 1) := by decide +kernel
theorem dX11_init_61 : decode cX11_init 61 = .ok (.invokespecial 23, 3) := by decide +kernel
theorem dX11_init_64 : decode cX11_init 64 = .ok (.aastore, 1) := by decide +kernel
theorem dX11_init_65 : decode cX11_init 65 = .ok (.dup, 1) := by decide +kernel
theorem dX11_init_66 : decode cX11_init 66 = .ok (.iconst 5, 1) := by decide +kernel
theorem dX11_init_67 : decode cX11_init 67 = .ok (.new 24, 3) := by decide +kernel
theorem dX11_init_70 : decode cX11_init 70 = .ok (.dup, 1) := by decide +kernel
theorem dX11_init_71 : decode cX11_init 71 = .ok (.iconst 5, 1) := by decide +kernel
theorem dX11_init_72 : decode cX11_init 72 = .ok (.invokespecial 26, 3) := by decide +kernel
theorem dX11_init_75 : decode cX11_init 75 = .ok (.aastore, 1) := by decide +kernel
theorem dX11_init_76 : decode cX11_init 76 = .ok (.dup, 1) := by decide +kernel
theorem dX11_init_77 : decode cX11_init 77 = .ok (.bipush 6, 2) := by decide +kernel
theorem dX11_init_79 : decode cX11_init 79 = .ok (.new 27, 3) := by decide +kernel
theorem dX11_init_82 : decode cX11_init 82 = .ok (.dup, 1) := by decide +kernel
theorem dX11_init_83 : decode cX11_init 83 = .ok (.bipush 6, 2) := by decide +kernel
theorem dX11_init_85 : decode cX11_init 85 = .ok (.invokespecial 29, 3) := by decide +kernel
theorem dX11_init_88 : decode cX11_init 88 = .ok (.aastore, 1) := by decide +kernel
theorem dX11_init_89 : decode cX11_init 89 = .ok (.putfield 30, 3) := by decide +kernel
theorem dX11_init_92 : decode cX11_init 92 = .ok (.aload_n 0, 1) := by decide +kernel
theorem dX11_init_93 : decode cX11_init 93 = .ok (.bipush 6, 2) := by decide +kernel
theorem dX11_init_95 : decode cX11_init 95 = .ok (.anewarray 36, 3) := by decide +kernel
theorem dX11_init_98 : decode cX11_init 98 = .ok (.putfield 38, 3) := by decide +kernel
theorem dX11_init_101 : decode cX11_init 101 = .ok (.aload_n 0, 1) := by decide +kernel
theorem dX11_init_102 : decode cX11_init 102 = .ok (.new 42, 3) := by decide +kernel
theorem dX11_init_105 : decode cX11_init 105 = .ok (.dup, 1) := by decide +kernel
theorem dX11_init_106 : decode cX11_init 106 = .ok (.invokespecial 44, 3) := by decide +kernel
theorem dX11_init_109 : decode cX11_init 109 = .ok (.putfield 45, 3) := by decide +kernel
theorem dX11_init_112 : decode cX11_init 112 = .ok (.aload_n 0, 1) := by decide +kernel
theorem dX11_init_113 : decode cX11_init 113 = .ok (.bipush 41, 2) := by decide +kernel
theorem dX11_init_115 : decode cX11_init 115 = .ok (.newarray .int, 2) := by decide +kernel
theorem dX11_init_117 : decode cX11_init 117 = .ok (.putfield 49, 3) := by decide +kernel
theorem dX11_init_120 : decode cX11_init 120 = .ok (.aload_n 0, 1) := by decide +kernel
theorem dX11_init_121 : decode cX11_init 121 = .ok (.iconst 4, 1) := by decide +kernel
theorem dX11_init_122 : decode cX11_init 122 = .ok (.bipush 40, 2) := by decide +kernel
theorem dX11_init_124 : decode cX11_init 124 = .ok (.multianewarray 53 2, 4) := by decide +kernel
theorem dX11_init_128 : decode cX11_init 128 = .ok (.putfield 55, 3) := by decide +kernel
theorem dX11_init_131 : decode cX11_init 131 = .ok (.aload_n 0, 1) := by decide +kernel
theorem dX11_init_132 : decode cX11_init 132 = .ok (.iconst 4, 1) := by decide +kernel
theorem dX11_init_133 : decode cX11_init 133 = .ok (.newarray .int, 2) := by decide +kernel
theorem dX11_init_135 : decode cX11_init 135 = .ok (.putfield 58, 3) := by decide +kernel
theorem dX11_init_138 : decode cX11_init 138 = .ok (.aload_n 0, 1) := by decide +kernel
theorem dX11_init_139 : decode cX11_init 139 = .ok (.iconst 4, 1) := by decide +kernel
theorem dX11_init_140 : decode cX11_init 140 = .ok (.newarray .int, 2) := by decide +kernel
theorem dX11_init_142 : decode cX11_init 142 = .ok (.putfield 61, 3) := by decide +kernel
theorem dX11_init_145 : decode cX11_init 145 = .ok (.aload_n 0, 1) := by decide +kernel
theorem dX11_init_146 : decode cX11_init 146 = .ok (.bipush 6, 2) := by decide +kernel
theorem dX11_init_148 : decode cX11_init 148 = .ok (.newarray .int, 2) := by decide +kernel
theorem dX11_init_150 : decode cX11_init 150 = .ok (.putfield 64, 3) := by decide +kernel
theorem dX11_init_153 : decode cX11_init 153 = .ok (.aload_n 0, 1) := by decide +kernel
theorem dX11_init_154 : decode cX11_init 154 = .ok (.new 67, 3) := by decide +kernel
theorem dX11_init_157 : decode cX11_init 157 = .ok (.dup, 1) := by decide +kernel
theorem dX11_init_158 : decode cX11_init 158 = .ok (.aload_n 0, 1) := by decide +kernel
theorem dX11_init_159 : decode cX11_init 159 = .ok (.getfield 30, 3) := by decide +kernel
theorem dX11_init_162 : decode cX11_init 162 = .ok (.iconst 0, 1) := by decide +kernel
theorem dX11_init_163 : decode cX11_init 163 = .ok (.aaload, 1) := by decide +kernel
theorem dX11_init_164 : decode cX11_init 164 = .ok (.invokespecial 69, 3) := by decide +kernel
theorem dX11_init_167 : decode cX11_init 167 = .ok (.putfield 72, 3) := by decide +kernel
theorem dX11_init_170 : decode cX11_init 170 = .ok (.aload_n 0, 1) := by decide +kernel
theorem dX11_init_171 : decode cX11_init 171 = .ok (.new 67, 3) := by decide +kernel
theorem dX11_init_174 : decode cX11_init 174 = .ok (.dup, 1) := by decide +kernel
theorem dX11_init_175 : decode cX11_init 175 = .ok (.aload_n 0, 1) := by decide +kernel
theorem dX11_init_176 : decode cX11_init 176 = .ok (.getfield 30, 3) := by decide +kernel
theorem dX11_init_179 : decode cX11_init 179 = .ok (.iconst 0, 1) := by decide +kernel
theorem dX11_init_180 : decode cX11_init 180 = .ok (.aaload, 1) := by decide +kernel
theorem dX11_init_181 : decode cX11_init 181 = .ok (.invokespecial 69, 3) := by decide +kernel
theorem dX11_init_184 : decode cX11_init 184 = .ok (.putfield 76, 3) := by decide +kernel
theorem dX11_init_187 : decode cX11_init 187 = .ok (.iconst 0, 1) := by decide +kernel
theorem dX11_init_188 : decode cX11_init 188 = .ok (.istore_n 1, 1) := by decide +kernel
theorem dX11_init_189 : decode cX11_init 189 = .ok (.iload_n 1, 1) := by decide +kernel
theorem dX11_init_190 : decode cX11_init 190 = .ok (.bipush 6, 2) := by decide +kernel
theorem dX11_init_192 : decode cX11_init 192 = .ok (.if_icmp .ge 29, 3) := by decide +kernel
theorem dX11_init_195 : decode cX11_init 195 = .ok (.aload_n 0, 1) := by decide +kernel
theorem dX11_init_196 : decode cX11_init 196 = .ok (.getfield 38, 3) := by decide +kernel
theorem dX11_init_199 : decode cX11_init 199 = .ok (.iload_n 1, 1) := by decide +kernel
theorem dX11_init_200 : decode cX11_init 200 = .ok (.new 36, 3) := by decide +kernel
theorem dX11_init_203 : decode cX11_init 203 = .ok (.dup, 1) := by decide +kernel
theorem dX11_init_204 : decode cX11_init 204 = .ok (.iload_n 1, 1) := by decide +kernel
theorem dX11_init_205 : decode cX11_init 205 = .ok (.aload_n 0, 1) := by decide +kernel
theorem dX11_init_206 : decode cX11_init 206 = .ok (.getfield 30, 3) := by decide +kernel
theorem dX11_init_209 : decode cX11_init 209 = .ok (.iconst 0, 1) := by decide +kernel
theorem dX11_init_210 : decode cX11_init 210 = .ok (.aaload, 1) := by decide +kernel
theorem dX11_init_211 : decode cX11_init 211 = .ok (.invokespecial 79, 3) := by decide +kernel
theorem dX11_init_214 : decode cX11_init 214 = .ok (.aastore, 1) := by decide +kernel
theorem dX11_init_215 : decode cX11_init 215 = .ok (.iinc 1 1, 3) := by decide +kernel
theorem dX11_init_218 : decode cX11_init 218 = .ok (.goto (-29), 3) := by decide +kernel
theorem dX11_init_221 : decode cX11_init 221 = .ok (.return_, 1) := by decide +kernel
theorem dX11_hill_0 : decode cX11_hill 0 = .ok (.iload_n 1, 1) := by decide +kernel
theorem dX11_hill_1 : decode cX11_hill 1 = .ok (.iconst 0, 1) := by decide +kernel
theorem dX11_hill_2 : decode cX11_hill 2 = .ok (.bipush 8, 2) := by decide +kernel
theorem dX11_hill_4 : decode cX11_hill 4 = .ok (.invokestatic 82, 3) := by decide +kernel
theorem dX11_hill_7 : decode cX11_hill 7 = .ok (.ifCond .eq 24, 3) := by decide +kernel
theorem dX11_hill_10 : decode cX11_hill 10 = .ok (.iload_n 2, 1) := by decide +kernel
theorem dX11_hill_11 : decode cX11_hill 11 = .ok (.iconst 0, 1) := by decide +kernel
theorem dX11_hill_12 : decode cX11_hill 12 = .ok (.iconst 2, 1) := by decide +kernel
theorem dX11_hill_13 : decode cX11_hill 13 = .ok (.invokestatic 82, 3) := by decide +kernel
theorem dX11_hill_16 : decode cX11_hill 16 = .ok (.ifCond .eq 15, 3) := by decide +kernel
theorem dX11_hill_19 : decode cX11_hill 19 = .ok (.iload_n 3, 1) := by decide +kernel
theorem dX11_hill_20 : decode cX11_hill 20 = .ok (.iconst 0, 1) := by decide +kernel
theorem dX11_hill_21 : decode cX11_hill 21 = .ok (.iload_n 2, 1) := by decide +kernel
theorem dX11_hill_22 : decode cX11_hill 22 = .ok (.invokestatic 86, 3) := by decide +kernel
theorem dX11_hill_25 : decode cX11_hill 25 = .ok (.invokestatic 82, 3) := by decide +kernel
theorem dX11_hill_28 : decode cX11_hill 28 = .ok (.ifCond .ne 9, 3) := by decide +kernel
theorem dX11_hill_31 : decode cX11_hill 31 = .ok (.aload_n 0, 1) := by decide +kernel
theorem dX11_hill_32 : decode cX11_hill 32 = .ok (.iconst 1, 1) := by decide +kernel
theorem dX11_hill_33 : decode cX11_hill 33 = .ok (.invokevirtual 90, 3) := by decide +kernel
theorem dX11_hill_36 : decode cX11_hill 36 = .ok (.ireturn, 1) := by decide +kernel
theorem dX11_hill_37 : decode cX11_hill 37 = .ok (.iload_n 2, 1) := by decide +kernel
theorem dX11_hill_38 : decode cX11_hill 38 = .ok (.iconst 1, 1) := by decide +kernel
theorem dX11_hill_39 : decode cX11_hill 39 = .ok (.if_icmp .ne 21, 3) := by decide +kernel
theorem dX11_hill_42 : decode cX11_hill 42 = .ok (.iload_n 3, 1) := by decide +kernel
theorem dX11_hill_43 : decode cX11_hill 43 = .ok (.aload_n 0, 1) := by decide +kernel
theorem dX11_hill_44 : decode cX11_hill 44 = .ok (.getfield 72, 3) := by decide +kernel
theorem dX11_hill_47 : decode cX11_hill 47 = .ok (.iload_n 1, 1) := by decide +kernel
theorem dX11_hill_48 : decode cX11_hill 48 = .ok (.invokevirtual 93, 3) := by decide +kernel
theorem dX11_hill_51 : decode cX11_hill 51 = .ok (.if_icmp .ge 9, 3) := by decide +kernel
theorem dX11_hill_54 : decode cX11_hill 54 = .ok (.aload_n 0, 1) := by decide +kernel
theorem dX11_hill_55 : decode cX11_hill 55 = .ok (.iconst 3, 1) := by decide +kernel
theorem dX11_hill_56 : decode cX11_hill 56 = .ok (.invokevirtual 90, 3) := by decide +kernel
theorem dX11_hill_59 : decode cX11_hill 59 = .ok (.ireturn, 1) := by decide +kernel
theorem dX11_hill_60 : decode cX11_hill 60 = .ok (.iload_n 2, 1) := by decide +kernel
theorem dX11_hill_61 : decode cX11_hill 61 = .ok (.ifCond .ne 13, 3) := by decide +kernel
theorem dX11_hill_64 : decode cX11_hill 64 = .ok (.aload_n 0, 1) := by decide +kernel
theorem dX11_hill_65 : decode cX11_hill 65 = .ok (.getfield 72, 3) := by decide +kernel
theorem dX11_hill_68 : decode cX11_hill 68 = .ok (.getfield 96, 3) := by decide +kernel
theorem dX11_hill_71 : decode cX11_hill 71 = .ok (.goto 25, 3) := by decide +kernel
theorem dX11_hill_74 : decode cX11_hill 74 = .ok (.iload_n 2, 1) := by decide +kernel
theorem dX11_hill_75 : decode cX11_hill 75 = .ok (.iconst 1, 1) := by decide +kernel
theorem dX11_hill_76 : decode cX11_hill 76 = .ok (.if_icmp .ne 13, 3) := by decide +kernel
theorem dX11_hill_79 : decode cX11_hill 79 = .ok (.aload_n 0, 1) := by decide +kernel
theorem dX11_hill_80 : decode cX11_hill 80 = .ok (.getfield 72, 3) := by decide +kernel
theorem dX11_hill_83 : decode cX11_hill 83 = .ok (.getfield 99, 3) := by decide +kernel
theorem dX11_hill_86 : decode cX11_hill 86 = .ok (.goto 10, 3) := by decide +kernel
theorem dX11_hill_89 : decode cX11_hill 89 = .ok (.aload_n 0, 1) := by decide +kernel
theorem dX11_hill_90 : decode cX11_hill 90 = .ok (.getfield 72, 3) := by decide +kernel
theorem dX11_hill_93 : decode cX11_hill 93 = .ok (.getfield 102, 3) := by decide +kernel
theorem dX11_hill_96 : decode cX11_hill 96 = .ok (.astore 4, 2) := by decide +kernel
theorem dX11_hill_98 : decode cX11_hill 98 = .ok (.aload 4, 2) := by decide +kernel
theorem dX11_hill_100 : decode cX11_hill 100 = .ok (.iload_n 1, 1) := by decide +kernel
theorem dX11_hill_101 : decode cX11_hill 101 = .ok (.iaload, 1) := by decide +kernel
theorem dX11_hill_102 : decode cX11_hill 102 = .ok (.istore 5, 2) := by decide +kernel
theorem dX11_hill_104 : decode cX11_hill 104 = .ok (.aload 4, 2) := by decide +kernel
theorem dX11_hill_106 : decode cX11_hill 106 = .ok (.iload_n 1, 1) := by decide +kernel
theorem dX11_hill_107 : decode cX11_hill 107 = .ok (.iload_n 3, 1) := by decide +kernel
theorem dX11_hill_108 : decode cX11_hill 108 = .ok (.iastore, 1) := by decide +kernel
theorem dX11_hill_109 : decode cX11_hill 109 = .ok (.iload 5, 2) := by decide +kernel
theorem dX11_hill_111 : decode cX11_hill 111 = .ok (.ireturn, 1) := by decide +kernel
theorem dX11_ofHill_0 : decode cX11_ofHill 0 = .ok (.iload_n 1, 1) := by decide +kernel
theorem dX11_ofHill_1 : decode cX11_ofHill 1 = .ok (.iconst 0, 1) := by decide +kernel
theorem dX11_ofHill_2 : decode cX11_ofHill 2 = .ok (.bipush 8, 2) := by decide +kernel
theorem dX11_ofHill_4 : decode cX11_ofHill 4 = .ok (.invokestatic 82, 3) := by decide +kernel
theorem dX11_ofHill_7 : decode cX11_ofHill 7 = .ok (.ifCond .ne 9, 3) := by decide +kernel
theorem dX11_ofHill_10 : decode cX11_ofHill 10 = .ok (.aload_n 0, 1) := by decide +kernel
theorem dX11_ofHill_11 : decode cX11_ofHill 11 = .ok (.iconst 1, 1) := by decide +kernel
theorem dX11_ofHill_12 : decode cX11_ofHill 12 = .ok (.invokevirtual 90, 3) := by decide +kernel
theorem dX11_ofHill_15 : decode cX11_ofHill 15 = .ok (.ireturn, 1) := by decide +kernel
theorem dX11_ofHill_16 : decode cX11_ofHill 16 = .ok (.iload_n 2, 1) := by decide +kernel
theorem dX11_ofHill_17 : decode cX11_ofHill 17 = .ok (.tableswitch 90 0 4 #[35, 45, 55, 65, 74], 35) := by decide +kernel
theorem dX11_ofHill_52 : decode cX11_ofHill 52 = .ok (.aload_n 0, 1) := by decide +kernel
theorem dX11_ofHill_53 : decode cX11_ofHill 53 = .ok (.getfield 72, 3) := by decide +kernel
theorem dX11_ofHill_56 : decode cX11_ofHill 56 = .ok (.getfield 96, 3) := by decide +kernel
theorem dX11_ofHill_59 : decode cX11_ofHill 59 = .ok (.iload_n 1, 1) := by decide +kernel
theorem dX11_ofHill_60 : decode cX11_ofHill 60 = .ok (.iaload, 1) := by decide +kernel
theorem dX11_ofHill_61 : decode cX11_ofHill 61 = .ok (.ireturn, 1) := by decide +kernel
theorem dX11_ofHill_62 : decode cX11_ofHill 62 = .ok (.aload_n 0, 1) := by decide +kernel
theorem dX11_ofHill_63 : decode cX11_ofHill 63 = .ok (.getfield 72, 3) := by decide +kernel
theorem dX11_ofHill_66 : decode cX11_ofHill 66 = .ok (.getfield 99, 3) := by decide +kernel
theorem dX11_ofHill_69 : decode cX11_ofHill 69 = .ok (.iload_n 1, 1) := by decide +kernel
theorem dX11_ofHill_70 : decode cX11_ofHill 70 = .ok (.iaload, 1) := by decide +kernel
theorem dX11_ofHill_71 : decode cX11_ofHill 71 = .ok (.ireturn, 1) := by decide +kernel
theorem dX11_ofHill_72 : decode cX11_ofHill 72 = .ok (.aload_n 0, 1) := by decide +kernel
theorem dX11_ofHill_73 : decode cX11_ofHill 73 = .ok (.getfield 72, 3) := by decide +kernel
theorem dX11_ofHill_76 : decode cX11_ofHill 76 = .ok (.getfield 102, 3) := by decide +kernel
theorem dX11_ofHill_79 : decode cX11_ofHill 79 = .ok (.iload_n 1, 1) := by decide +kernel
theorem dX11_ofHill_80 : decode cX11_ofHill 80 = .ok (.iaload, 1) := by decide +kernel
theorem dX11_ofHill_81 : decode cX11_ofHill 81 = .ok (.ireturn, 1) := by decide +kernel
theorem dX11_ofHill_82 : decode cX11_ofHill 82 = .ok (.aload_n 0, 1) := by decide +kernel
theorem dX11_ofHill_83 : decode cX11_ofHill 83 = .ok (.getfield 72, 3) := by decide +kernel
theorem dX11_ofHill_86 : decode cX11_ofHill 86 = .ok (.iload_n 1, 1) := by decide +kernel
theorem dX11_ofHill_87 : decode cX11_ofHill 87 = .ok (.invokevirtual 93, 3) := by decide +kernel
theorem dX11_ofHill_90 : decode cX11_ofHill 90 = .ok (.ireturn, 1) := by decide +kernel
theorem dX11_ofHill_91 : decode cX11_ofHill 91 = .ok (.aload_n 0, 1) := by decide +kernel
theorem dX11_ofHill_92 : decode cX11_ofHill 92 = .ok (.getfield 72, 3) := by decide +kernel
theorem dX11_ofHill_95 : decode cX11_ofHill 95 = .ok (.iload_n 1, 1) := by decide +kernel
theorem dX11_ofHill_96 : decode cX11_ofHill 96 = .ok (.aload_n 0, 1) := by decide +kernel
theorem dX11_ofHill_97 : decode cX11_ofHill 97 = .ok (.getfield 72, 3) := by decide +kernel
theorem dX11_ofHill_100 : decode cX11_ofHill 100 = .ok (.getfield 105, 3) := by decide +kernel
theorem dX11_ofHill_103 : decode cX11_ofHill 103 = .ok (.invokevirtual 109, 3) := by decide +kernel
theorem dX11_ofHill_106 : decode cX11_ofHill 106 = .ok (.ireturn, 1) := by decide +kernel
theorem dX11_ofHill_107 : decode cX11_ofHill 107 = .ok (.aload_n 0, 1) := by decide +kernel
theorem dX11_ofHill_108 : decode cX11_ofHill 108 = .ok (.iconst 1, 1) := by decide +kernel
theorem dX11_ofHill_109 : decode cX11_ofHill 109 = .ok (.invokevirtual 90, 3) := by decide +kernel
theorem dX11_ofHill_112 : decode cX11_ofHill 112 = .ok (.ireturn, 1) := by decide +kernel
theorem dX11_carrier_0 : decode cX11_carrier 0 = .ok (.iload_n 1, 1) := by decide +kernel
theorem dX11_carrier_1 : decode cX11_carrier 1 = .ok (.invokestatic 113, 3) := by decide +kernel
theorem dX11_carrier_4 : decode cX11_carrier 4 = .ok (.ifCond .eq 23, 3) := by decide +kernel
theorem dX11_carrier_7 : decode cX11_carrier 7 = .ok (.iload_n 2, 1) := by decide +kernel
theorem dX11_carrier_8 : decode cX11_carrier 8 = .ok (.iconst 1, 1) := by decide +kernel
theorem dX11_carrier_9 : decode cX11_carrier 9 = .ok (.bipush 9, 2) := by decide +kernel
theorem dX11_carrier_11 : decode cX11_carrier 11 = .ok (.invokestatic 82, 3) := by decide +kernel
theorem dX11_carrier_14 : decode cX11_carrier 14 = .ok (.ifCond .eq 13, 3) := by decide +kernel
theorem dX11_carrier_17 : decode cX11_carrier 17 = .ok (.iload_n 3, 1) := by decide +kernel
theorem dX11_carrier_18 : decode cX11_carrier 18 = .ok (.iconst 0, 1) := by decide +kernel
theorem dX11_carrier_19 : decode cX11_carrier 19 = .ok (.bipush 20, 2) := by decide +kernel
theorem dX11_carrier_21 : decode cX11_carrier 21 = .ok (.invokestatic 82, 3) := by decide +kernel
theorem dX11_carrier_24 : decode cX11_carrier 24 = .ok (.ifCond .ne 9, 3) := by decide +kernel
theorem dX11_carrier_27 : decode cX11_carrier 27 = .ok (.aload_n 0, 1) := by decide +kernel
theorem dX11_carrier_28 : decode cX11_carrier 28 = .ok (.iconst 1, 1) := by decide +kernel
theorem dX11_carrier_29 : decode cX11_carrier 29 = .ok (.invokevirtual 90, 3) := by decide +kernel
theorem dX11_carrier_32 : decode cX11_carrier 32 = .ok (.ireturn, 1) := by decide +kernel
theorem dX11_carrier_33 : decode cX11_carrier 33 = .ok (.aload_n 0, 1) := by decide +kernel
theorem dX11_carrier_34 : decode cX11_carrier 34 = .ok (.getfield 72, 3) := by decide +kernel
theorem dX11_carrier_37 : decode cX11_carrier 37 = .ok (.getfield 117, 3) := by decide +kernel
theorem dX11_carrier_40 : decode cX11_carrier 40 = .ok (.iload_n 1, 1) := by decide +kernel
theorem dX11_carrier_41 : decode cX11_carrier 41 = .ok (.iaload, 1) := by decide +kernel
theorem dX11_carrier_42 : decode cX11_carrier 42 = .ok (.istore 4, 2) := by decide +kernel
theorem dX11_carrier_44 : decode cX11_carrier 44 = .ok (.aload_n 0, 1) := by decide +kernel
theorem dX11_carrier_45 : decode cX11_carrier 45 = .ok (.getfield 72, 3) := by decide +kernel
theorem dX11_carrier_48 : decode cX11_carrier 48 = .ok (.getfield 117, 3) := by decide +kernel
theorem dX11_carrier_51 : decode cX11_carrier 51 = .ok (.iload_n 1, 1) := by decide +kernel
theorem dX11_carrier_52 : decode cX11_carrier 52 = .ok (.iload_n 2, 1) := by decide +kernel
theorem dX11_carrier_53 : decode cX11_carrier 53 = .ok (.iastore, 1) := by decide +kernel
theorem dX11_carrier_54 : decode cX11_carrier 54 = .ok (.aload_n 0, 1) := by decide +kernel
theorem dX11_carrier_55 : decode cX11_carrier 55 = .ok (.getfield 72, 3) := by decide +kernel
theorem dX11_carrier_58 : decode cX11_carrier 58 = .ok (.getfield 120, 3) := by decide +kernel
theorem dX11_carrier_61 : decode cX11_carrier 61 = .ok (.iload_n 1, 1) := by decide +kernel
theorem dX11_carrier_62 : decode cX11_carrier 62 = .ok (.iload_n 3, 1) := by decide +kernel
theorem dX11_carrier_63 : decode cX11_carrier 63 = .ok (.iastore, 1) := by decide +kernel
theorem dX11_carrier_64 : decode cX11_carrier 64 = .ok (.bipush 10, 2) := by decide +kernel
theorem dX11_carrier_66 : decode cX11_carrier 66 = .ok (.iload 4, 2) := by decide +kernel
theorem dX11_carrier_68 : decode cX11_carrier 68 = .ok (.imul, 1) := by decide +kernel
theorem dX11_carrier_69 : decode cX11_carrier 69 = .ok (.ireturn, 1) := by decide +kernel
theorem dX11_churn_0 : decode cX11_churn 0 = .ok (.iload_n 1, 1) := by decide +kernel
theorem dX11_churn_1 : decode cX11_churn 1 = .ok (.iconst 0, 1) := by decide +kernel
theorem dX11_churn_2 : decode cX11_churn 2 = .ok (.bipush 69, 2) := by decide +kernel
theorem dX11_churn_4 : decode cX11_churn 4 = .ok (.invokestatic 82, 3) := by decide +kernel
theorem dX11_churn_7 : decode cX11_churn 7 = .ok (.ifCond .ne 9, 3) := by decide +kernel
theorem dX11_churn_10 : decode cX11_churn 10 = .ok (.aload_n 0, 1) := by decide +kernel
theorem dX11_churn_11 : decode cX11_churn 11 = .ok (.iconst 1, 1) := by decide +kernel
theorem dX11_churn_12 : decode cX11_churn 12 = .ok (.invokevirtual 90, 3) := by decide +kernel
theorem dX11_churn_15 : decode cX11_churn 15 = .ok (.ireturn, 1) := by decide +kernel
theorem dX11_churn_16 : decode cX11_churn 16 = .ok (.aload_n 0, 1) := by decide +kernel
theorem dX11_churn_17 : decode cX11_churn 17 = .ok (.getfield 72, 3) := by decide +kernel
theorem dX11_churn_20 : decode cX11_churn 20 = .ok (.getfield 123, 3) := by decide +kernel
theorem dX11_churn_23 : decode cX11_churn 23 = .ok (.bipush 6, 2) := by decide +kernel
theorem dX11_churn_25 : decode cX11_churn 25 = .ok (.if_icmp .lt 9, 3) := by decide +kernel
theorem dX11_churn_28 : decode cX11_churn 28 = .ok (.aload_n 0, 1) := by decide +kernel
theorem dX11_churn_29 : decode cX11_churn 29 = .ok (.iconst 4, 1) := by decide +kernel
theorem dX11_churn_30 : decode cX11_churn 30 = .ok (.invokevirtual 90, 3) := by decide +kernel
theorem dX11_churn_33 : decode cX11_churn 33 = .ok (.ireturn, 1) := by decide +kernel
theorem dX11_churn_34 : decode cX11_churn 34 = .ok (.aload_n 0, 1) := by decide +kernel
theorem dX11_churn_35 : decode cX11_churn 35 = .ok (.getfield 72, 3) := by decide +kernel
theorem dX11_churn_38 : decode cX11_churn 38 = .ok (.getfield 123, 3) := by decide +kernel
theorem dX11_churn_41 : decode cX11_churn 41 = .ok (.istore_n 2, 1) := by decide +kernel
theorem dX11_churn_42 : decode cX11_churn 42 = .ok (.aload_n 0, 1) := by decide +kernel
theorem dX11_churn_43 : decode cX11_churn 43 = .ok (.getfield 72, 3) := by decide +kernel
theorem dX11_churn_46 : decode cX11_churn 46 = .ok (.dup, 1) := by decide +kernel
theorem dX11_churn_47 : decode cX11_churn 47 = .ok (.getfield 123, 3) := by decide +kernel
theorem dX11_churn_50 : decode cX11_churn 50 = .ok (.iconst 1, 1) := by decide +kernel
theorem dX11_churn_51 : decode cX11_churn 51 = .ok (.iadd, 1) := by decide +kernel
theorem dX11_churn_52 : decode cX11_churn 52 = .ok (.putfield 123, 3) := by decide +kernel
theorem dX11_churn_55 : decode cX11_churn 55 = .ok (.aload_n 0, 1) := by decide +kernel
theorem dX11_churn_56 : decode cX11_churn 56 = .ok (.getfield 72, 3) := by decide +kernel
theorem dX11_churn_59 : decode cX11_churn 59 = .ok (.getfield 126, 3) := by decide +kernel
theorem dX11_churn_62 : decode cX11_churn 62 = .ok (.iload_n 2, 1) := by decide +kernel
theorem dX11_churn_63 : decode cX11_churn 63 = .ok (.aaload, 1) := by decide +kernel
theorem dX11_churn_64 : decode cX11_churn 64 = .ok (.aload_n 0, 1) := by decide +kernel
theorem dX11_churn_65 : decode cX11_churn 65 = .ok (.getfield 30, 3) := by decide +kernel
theorem dX11_churn_68 : decode cX11_churn 68 = .ok (.iload_n 1, 1) := by decide +kernel
theorem dX11_churn_69 : decode cX11_churn 69 = .ok (.bipush 10, 2) := by decide +kernel
theorem dX11_churn_71 : decode cX11_churn 71 = .ok (.idiv, 1) := by decide +kernel
theorem dX11_churn_72 : decode cX11_churn 72 = .ok (.aaload, 1) := by decide +kernel
theorem dX11_churn_73 : decode cX11_churn 73 = .ok (.putfield 129, 3) := by decide +kernel
theorem dX11_churn_76 : decode cX11_churn 76 = .ok (.aload_n 0, 1) := by decide +kernel
theorem dX11_churn_77 : decode cX11_churn 77 = .ok (.getfield 72, 3) := by decide +kernel
theorem dX11_churn_80 : decode cX11_churn 80 = .ok (.getfield 126, 3) := by decide +kernel
theorem dX11_churn_83 : decode cX11_churn 83 = .ok (.iload_n 2, 1) := by decide +kernel
theorem dX11_churn_84 : decode cX11_churn 84 = .ok (.aaload, 1) := by decide +kernel
theorem dX11_churn_85 : decode cX11_churn 85 = .ok (.iload_n 1, 1) := by decide +kernel
theorem dX11_churn_86 : decode cX11_churn 86 = .ok (.bipush 10, 2) := by decide +kernel
theorem dX11_churn_88 : decode cX11_churn 88 = .ok (.irem, 1) := by decide +kernel
theorem dX11_churn_89 : decode cX11_churn 89 = .ok (.putfield 133, 3) := by decide +kernel
theorem dX11_churn_92 : decode cX11_churn 92 = .ok (.aload_n 0, 1) := by decide +kernel
theorem dX11_churn_93 : decode cX11_churn 93 = .ok (.getfield 72, 3) := by decide +kernel
theorem dX11_churn_96 : decode cX11_churn 96 = .ok (.getfield 126, 3) := by decide +kernel
theorem dX11_churn_99 : decode cX11_churn 99 = .ok (.iload_n 2, 1) := by decide +kernel
theorem dX11_churn_100 : decode cX11_churn 100 = .ok (.aaload, 1) := by decide +kernel
theorem dX11_churn_101 : decode cX11_churn 101 = .ok (.invokevirtual 136, 3) := by decide +kernel
theorem dX11_churn_104 : decode cX11_churn 104 = .ok (.iload_n 2, 1) := by decide +kernel
theorem dX11_churn_105 : decode cX11_churn 105 = .ok (.ireturn, 1) := by decide +kernel
theorem dX11_ofChurn_0 : decode cX11_ofChurn 0 = .ok (.aload_n 0, 1) := by decide +kernel
theorem dX11_ofChurn_1 : decode cX11_ofChurn 1 = .ok (.iload_n 1, 1) := by decide +kernel
theorem dX11_ofChurn_2 : decode cX11_ofChurn 2 = .ok (.invokevirtual 139, 3) := by decide +kernel
theorem dX11_ofChurn_5 : decode cX11_ofChurn 5 = .ok (.ifCond .eq 13, 3) := by decide +kernel
theorem dX11_ofChurn_8 : decode cX11_ofChurn 8 = .ok (.iload_n 2, 1) := by decide +kernel
theorem dX11_ofChurn_9 : decode cX11_ofChurn 9 = .ok (.iconst 0, 1) := by decide +kernel
theorem dX11_ofChurn_10 : decode cX11_ofChurn 10 = .ok (.bipush 9, 2) := by decide +kernel
theorem dX11_ofChurn_12 : decode cX11_ofChurn 12 = .ok (.invokestatic 82, 3) := by decide +kernel
theorem dX11_ofChurn_15 : decode cX11_ofChurn 15 = .ok (.ifCond .ne 9, 3) := by decide +kernel
theorem dX11_ofChurn_18 : decode cX11_ofChurn 18 = .ok (.aload_n 0, 1) := by decide +kernel
theorem dX11_ofChurn_19 : decode cX11_ofChurn 19 = .ok (.iconst 1, 1) := by decide +kernel
theorem dX11_ofChurn_20 : decode cX11_ofChurn 20 = .ok (.invokevirtual 90, 3) := by decide +kernel
theorem dX11_ofChurn_23 : decode cX11_ofChurn 23 = .ok (.ireturn, 1) := by decide +kernel
theorem dX11_ofChurn_24 : decode cX11_ofChurn 24 = .ok (.aload_n 0, 1) := by decide +kernel
theorem dX11_ofChurn_25 : decode cX11_ofChurn 25 = .ok (.getfield 72, 3) := by decide +kernel
theorem dX11_ofChurn_28 : decode cX11_ofChurn 28 = .ok (.getfield 126, 3) := by decide +kernel
theorem dX11_ofChurn_31 : decode cX11_ofChurn 31 = .ok (.iload_n 1, 1) := by decide +kernel
theorem dX11_ofChurn_32 : decode cX11_ofChurn 32 = .ok (.aaload, 1) := by decide +kernel
theorem dX11_ofChurn_33 : decode cX11_ofChurn 33 = .ok (.iload_n 2, 1) := by decide +kernel
theorem dX11_ofChurn_34 : decode cX11_ofChurn 34 = .ok (.invokevirtual 142, 3) := by decide +kernel
theorem dX11_ofChurn_37 : decode cX11_ofChurn 37 = .ok (.ireturn, 1) := by decide +kernel
theorem dX11_become_0 : decode cX11_become 0 = .ok (.aload_n 0, 1) := by decide +kernel
theorem dX11_become_1 : decode cX11_become 1 = .ok (.iload_n 1, 1) := by decide +kernel
theorem dX11_become_2 : decode cX11_become 2 = .ok (.invokevirtual 139, 3) := by decide +kernel
theorem dX11_become_5 : decode cX11_become 5 = .ok (.ifCond .eq 13, 3) := by decide +kernel
theorem dX11_become_8 : decode cX11_become 8 = .ok (.iload_n 2, 1) := by decide +kernel
theorem dX11_become_9 : decode cX11_become 9 = .ok (.iconst 0, 1) := by decide +kernel
theorem dX11_become_10 : decode cX11_become 10 = .ok (.bipush 69, 2) := by decide +kernel
theorem dX11_become_12 : decode cX11_become 12 = .ok (.invokestatic 82, 3) := by decide +kernel
theorem dX11_become_15 : decode cX11_become 15 = .ok (.ifCond .ne 9, 3) := by decide +kernel
theorem dX11_become_18 : decode cX11_become 18 = .ok (.aload_n 0, 1) := by decide +kernel
theorem dX11_become_19 : decode cX11_become 19 = .ok (.iconst 1, 1) := by decide +kernel
theorem dX11_become_20 : decode cX11_become 20 = .ok (.invokevirtual 90, 3) := by decide +kernel
theorem dX11_become_23 : decode cX11_become 23 = .ok (.ireturn, 1) := by decide +kernel
theorem dX11_become_24 : decode cX11_become 24 = .ok (.aload_n 0, 1) := by decide +kernel
theorem dX11_become_25 : decode cX11_become 25 = .ok (.getfield 72, 3) := by decide +kernel
theorem dX11_become_28 : decode cX11_become 28 = .ok (.getfield 126, 3) := by decide +kernel
theorem dX11_become_31 : decode cX11_become 31 = .ok (.iload_n 1, 1) := by decide +kernel
theorem dX11_become_32 : decode cX11_become 32 = .ok (.aaload, 1) := by decide +kernel
theorem dX11_become_33 : decode cX11_become 33 = .ok (.astore_n 3, 1) := by decide +kernel
theorem dX11_become_34 : decode cX11_become 34 = .ok (.aload_n 3, 1) := by decide +kernel
theorem dX11_become_35 : decode cX11_become 35 = .ok (.getfield 129, 3) := by decide +kernel
theorem dX11_become_38 : decode cX11_become 38 = .ok (.getfield 145, 3) := by decide +kernel
theorem dX11_become_41 : decode cX11_become 41 = .ok (.istore 4, 2) := by decide +kernel
theorem dX11_become_43 : decode cX11_become 43 = .ok (.aload_n 3, 1) := by decide +kernel
theorem dX11_become_44 : decode cX11_become 44 = .ok (.aload_n 0, 1) := by decide +kernel
theorem dX11_become_45 : decode cX11_become 45 = .ok (.getfield 30, 3) := by decide +kernel
theorem dX11_become_48 : decode cX11_become 48 = .ok (.iload_n 2, 1) := by decide +kernel
theorem dX11_become_49 : decode cX11_become 49 = .ok (.bipush 10, 2) := by decide +kernel
theorem dX11_become_51 : decode cX11_become 51 = .ok (.idiv, 1) := by decide +kernel
theorem dX11_become_52 : decode cX11_become 52 = .ok (.aaload, 1) := by decide +kernel
theorem dX11_become_53 : decode cX11_become 53 = .ok (.putfield 129, 3) := by decide +kernel
theorem dX11_become_56 : decode cX11_become 56 = .ok (.aload_n 3, 1) := by decide +kernel
theorem dX11_become_57 : decode cX11_become 57 = .ok (.iload_n 2, 1) := by decide +kernel
theorem dX11_become_58 : decode cX11_become 58 = .ok (.bipush 10, 2) := by decide +kernel
theorem dX11_become_60 : decode cX11_become 60 = .ok (.irem, 1) := by decide +kernel
theorem dX11_become_61 : decode cX11_become 61 = .ok (.putfield 133, 3) := by decide +kernel
theorem dX11_become_64 : decode cX11_become 64 = .ok (.iload 4, 2) := by decide +kernel
theorem dX11_become_66 : decode cX11_become 66 = .ok (.ireturn, 1) := by decide +kernel
theorem dX11_as_0 : decode cX11_as 0 = .ok (.aload_n 0, 1) := by decide +kernel
theorem dX11_as_1 : decode cX11_as 1 = .ok (.iload_n 1, 1) := by decide +kernel
theorem dX11_as_2 : decode cX11_as 2 = .ok (.invokevirtual 139, 3) := by decide +kernel
theorem dX11_as_5 : decode cX11_as 5 = .ok (.ifCond .eq 13, 3) := by decide +kernel
theorem dX11_as_8 : decode cX11_as 8 = .ok (.iload_n 2, 1) := by decide +kernel
theorem dX11_as_9 : decode cX11_as 9 = .ok (.iconst 0, 1) := by decide +kernel
theorem dX11_as_10 : decode cX11_as 10 = .ok (.bipush 6, 2) := by decide +kernel
theorem dX11_as_12 : decode cX11_as 12 = .ok (.invokestatic 82, 3) := by decide +kernel
theorem dX11_as_15 : decode cX11_as 15 = .ok (.ifCond .ne 9, 3) := by decide +kernel
theorem dX11_as_18 : decode cX11_as 18 = .ok (.aload_n 0, 1) := by decide +kernel
theorem dX11_as_19 : decode cX11_as 19 = .ok (.iconst 1, 1) := by decide +kernel
theorem dX11_as_20 : decode cX11_as 20 = .ok (.invokevirtual 90, 3) := by decide +kernel
theorem dX11_as_23 : decode cX11_as 23 = .ok (.ireturn, 1) := by decide +kernel
theorem dX11_as_24 : decode cX11_as 24 = .ok (.aload_n 0, 1) := by decide +kernel
theorem dX11_as_25 : decode cX11_as 25 = .ok (.getfield 72, 3) := by decide +kernel
theorem dX11_as_28 : decode cX11_as 28 = .ok (.getfield 126, 3) := by decide +kernel
theorem dX11_as_31 : decode cX11_as 31 = .ok (.iload_n 1, 1) := by decide +kernel
theorem dX11_as_32 : decode cX11_as 32 = .ok (.aaload, 1) := by decide +kernel
theorem dX11_as_33 : decode cX11_as 33 = .ok (.astore_n 3, 1) := by decide +kernel
theorem dX11_as_34 : decode cX11_as 34 = .ok (.aload_n 3, 1) := by decide +kernel
theorem dX11_as_35 : decode cX11_as 35 = .ok (.getfield 129, 3) := by decide +kernel
theorem dX11_as_38 : decode cX11_as 38 = .ok (.iload_n 2, 1) := by decide +kernel
theorem dX11_as_39 : decode cX11_as 39 = .ok (.invokevirtual 148, 3) := by decide +kernel
theorem dX11_as_42 : decode cX11_as 42 = .ok (.ifCond .eq 10, 3) := by decide +kernel
theorem dX11_as_45 : decode cX11_as 45 = .ok (.aload_n 3, 1) := by decide +kernel
theorem dX11_as_46 : decode cX11_as 46 = .ok (.getfield 133, 3) := by decide +kernel
theorem dX11_as_49 : decode cX11_as 49 = .ok (.goto 8, 3) := by decide +kernel
theorem dX11_as_52 : decode cX11_as 52 = .ok (.aload_n 0, 1) := by decide +kernel
theorem dX11_as_53 : decode cX11_as 53 = .ok (.iconst 5, 1) := by decide +kernel
theorem dX11_as_54 : decode cX11_as 54 = .ok (.invokevirtual 90, 3) := by decide +kernel
theorem dX11_as_57 : decode cX11_as 57 = .ok (.ireturn, 1) := by decide +kernel
theorem dX11_go_0 : decode cX11_go 0 = .ok (.aload_n 0, 1) := by decide +kernel
theorem dX11_go_1 : decode cX11_go 1 = .ok (.iload_n 1, 1) := by decide +kernel
theorem dX11_go_2 : decode cX11_go 2 = .ok (.invokevirtual 139, 3) := by decide +kernel
theorem dX11_go_5 : decode cX11_go 5 = .ok (.ifCond .eq 10, 3) := by decide +kernel
theorem dX11_go_8 : decode cX11_go 8 = .ok (.iload_n 2, 1) := by decide +kernel
theorem dX11_go_9 : decode cX11_go 9 = .ok (.invokestatic 113, 3) := by decide +kernel
theorem dX11_go_12 : decode cX11_go 12 = .ok (.ifCond .ne 9, 3) := by decide +kernel
theorem dX11_go_15 : decode cX11_go 15 = .ok (.aload_n 0, 1) := by decide +kernel
theorem dX11_go_16 : decode cX11_go 16 = .ok (.iconst 1, 1) := by decide +kernel
theorem dX11_go_17 : decode cX11_go 17 = .ok (.invokevirtual 90, 3) := by decide +kernel
theorem dX11_go_20 : decode cX11_go 20 = .ok (.ireturn, 1) := by decide +kernel
theorem dX11_go_21 : decode cX11_go 21 = .ok (.aload_n 0, 1) := by decide +kernel
theorem dX11_go_22 : decode cX11_go 22 = .ok (.getfield 72, 3) := by decide +kernel
theorem dX11_go_25 : decode cX11_go 25 = .ok (.getfield 126, 3) := by decide +kernel
theorem dX11_go_28 : decode cX11_go 28 = .ok (.iload_n 1, 1) := by decide +kernel
theorem dX11_go_29 : decode cX11_go 29 = .ok (.aaload, 1) := by decide +kernel
theorem dX11_go_30 : decode cX11_go 30 = .ok (.astore_n 3, 1) := by decide +kernel
theorem dX11_go_31 : decode cX11_go 31 = .ok (.aload_n 3, 1) := by decide +kernel
theorem dX11_go_32 : decode cX11_go 32 = .ok (.invokevirtual 151, 3) := by decide +kernel
theorem dX11_go_35 : decode cX11_go 35 = .ok (.ifCond .ne 9, 3) := by decide +kernel
theorem dX11_go_38 : decode cX11_go 38 = .ok (.aload_n 0, 1) := by decide +kernel
theorem dX11_go_39 : decode cX11_go 39 = .ok (.iconst 3, 1) := by decide +kernel
theorem dX11_go_40 : decode cX11_go 40 = .ok (.invokevirtual 90, 3) := by decide +kernel
theorem dX11_go_43 : decode cX11_go 43 = .ok (.ireturn, 1) := by decide +kernel
theorem dX11_go_44 : decode cX11_go 44 = .ok (.aload_n 0, 1) := by decide +kernel
theorem dX11_go_45 : decode cX11_go 45 = .ok (.getfield 72, 3) := by decide +kernel
theorem dX11_go_48 : decode cX11_go 48 = .ok (.aload_n 3, 1) := by decide +kernel
theorem dX11_go_49 : decode cX11_go 49 = .ok (.iload_n 2, 1) := by decide +kernel
theorem dX11_go_50 : decode cX11_go 50 = .ok (.invokevirtual 155, 3) := by decide +kernel
theorem dX11_go_53 : decode cX11_go 53 = .ok (.aload_n 3, 1) := by decide +kernel
theorem dX11_go_54 : decode cX11_go 54 = .ok (.getfield 159, 3) := by decide +kernel
theorem dX11_go_57 : decode cX11_go 57 = .ok (.ireturn, 1) := by decide +kernel
theorem dX11_brook_0 : decode cX11_brook 0 = .ok (.aload_n 0, 1) := by decide +kernel
theorem dX11_brook_1 : decode cX11_brook 1 = .ok (.iload_n 1, 1) := by decide +kernel
theorem dX11_brook_2 : decode cX11_brook 2 = .ok (.invokevirtual 139, 3) := by decide +kernel
theorem dX11_brook_5 : decode cX11_brook 5 = .ok (.ifCond .ne 9, 3) := by decide +kernel
theorem dX11_brook_8 : decode cX11_brook 8 = .ok (.aload_n 0, 1) := by decide +kernel
theorem dX11_brook_9 : decode cX11_brook 9 = .ok (.iconst 1, 1) := by decide +kernel
theorem dX11_brook_10 : decode cX11_brook 10 = .ok (.invokevirtual 90, 3) := by decide +kernel
theorem dX11_brook_13 : decode cX11_brook 13 = .ok (.ireturn, 1) := by decide +kernel
theorem dX11_brook_14 : decode cX11_brook 14 = .ok (.aload_n 0, 1) := by decide +kernel
theorem dX11_brook_15 : decode cX11_brook 15 = .ok (.getfield 72, 3) := by decide +kernel
theorem dX11_brook_18 : decode cX11_brook 18 = .ok (.getfield 126, 3) := by decide +kernel
theorem dX11_brook_21 : decode cX11_brook 21 = .ok (.iload_n 1, 1) := by decide +kernel
theorem dX11_brook_22 : decode cX11_brook 22 = .ok (.aaload, 1) := by decide +kernel
theorem dX11_brook_23 : decode cX11_brook 23 = .ok (.astore_n 2, 1) := by decide +kernel
theorem dX11_brook_24 : decode cX11_brook 24 = .ok (.aload_n 2, 1) := by decide +kernel
theorem dX11_brook_25 : decode cX11_brook 25 = .ok (.getfield 162, 3) := by decide +kernel
theorem dX11_brook_28 : decode cX11_brook 28 = .ok (.ifCond .ne 10, 3) := by decide +kernel
theorem dX11_brook_31 : decode cX11_brook 31 = .ok (.aload_n 2, 1) := by decide +kernel
theorem dX11_brook_32 : decode cX11_brook 32 = .ok (.getfield 165, 3) := by decide +kernel
theorem dX11_brook_35 : decode cX11_brook 35 = .ok (.ifCond .eq 9, 3) := by decide +kernel
theorem dX11_brook_38 : decode cX11_brook 38 = .ok (.aload_n 0, 1) := by decide +kernel
theorem dX11_brook_39 : decode cX11_brook 39 = .ok (.iconst 3, 1) := by decide +kernel
theorem dX11_brook_40 : decode cX11_brook 40 = .ok (.invokevirtual 90, 3) := by decide +kernel
theorem dX11_brook_43 : decode cX11_brook 43 = .ok (.ireturn, 1) := by decide +kernel
theorem dX11_brook_44 : decode cX11_brook 44 = .ok (.aload_n 0, 1) := by decide +kernel
theorem dX11_brook_45 : decode cX11_brook 45 = .ok (.getfield 72, 3) := by decide +kernel
theorem dX11_brook_48 : decode cX11_brook 48 = .ok (.aload_n 2, 1) := by decide +kernel
theorem dX11_brook_49 : decode cX11_brook 49 = .ok (.getfield 169, 3) := by decide +kernel
theorem dX11_brook_52 : decode cX11_brook 52 = .ok (.invokevirtual 93, 3) := by decide +kernel
theorem dX11_brook_55 : decode cX11_brook 55 = .ok (.aload_n 0, 1) := by decide +kernel
theorem dX11_brook_56 : decode cX11_brook 56 = .ok (.getfield 72, 3) := by decide +kernel
theorem dX11_brook_59 : decode cX11_brook 59 = .ok (.aload_n 2, 1) := by decide +kernel
theorem dX11_brook_60 : decode cX11_brook 60 = .ok (.getfield 169, 3) := by decide +kernel
theorem dX11_brook_63 : decode cX11_brook 63 = .ok (.invokevirtual 172, 3) := by decide +kernel
theorem dX11_brook_66 : decode cX11_brook 66 = .ok (.if_icmp .lt 9, 3) := by decide +kernel
theorem dX11_brook_69 : decode cX11_brook 69 = .ok (.aload_n 0, 1) := by decide +kernel
theorem dX11_brook_70 : decode cX11_brook 70 = .ok (.iconst 4, 1) := by decide +kernel
theorem dX11_brook_71 : decode cX11_brook 71 = .ok (.invokevirtual 90, 3) := by decide +kernel
theorem dX11_brook_74 : decode cX11_brook 74 = .ok (.ireturn, 1) := by decide +kernel
theorem dX11_brook_75 : decode cX11_brook 75 = .ok (.aload_n 2, 1) := by decide +kernel
theorem dX11_brook_76 : decode cX11_brook 76 = .ok (.iconst 1, 1) := by decide +kernel
theorem dX11_brook_77 : decode cX11_brook 77 = .ok (.putfield 162, 3) := by decide +kernel
theorem dX11_brook_80 : decode cX11_brook 80 = .ok (.aload_n 0, 1) := by decide +kernel
theorem dX11_brook_81 : decode cX11_brook 81 = .ok (.getfield 72, 3) := by decide +kernel
theorem dX11_brook_84 : decode cX11_brook 84 = .ok (.aload_n 2, 1) := by decide +kernel
theorem dX11_brook_85 : decode cX11_brook 85 = .ok (.getfield 169, 3) := by decide +kernel
theorem dX11_brook_88 : decode cX11_brook 88 = .ok (.invokevirtual 93, 3) := by decide +kernel
theorem dX11_brook_91 : decode cX11_brook 91 = .ok (.ireturn, 1) := by decide +kernel
theorem dX11_rest_0 : decode cX11_rest 0 = .ok (.aload_n 0, 1) := by decide +kernel
theorem dX11_rest_1 : decode cX11_rest 1 = .ok (.iload_n 1, 1) := by decide +kernel
theorem dX11_rest_2 : decode cX11_rest 2 = .ok (.invokevirtual 139, 3) := by decide +kernel
theorem dX11_rest_5 : decode cX11_rest 5 = .ok (.ifCond .ne 9, 3) := by decide +kernel
theorem dX11_rest_8 : decode cX11_rest 8 = .ok (.aload_n 0, 1) := by decide +kernel
theorem dX11_rest_9 : decode cX11_rest 9 = .ok (.iconst 1, 1) := by decide +kernel
theorem dX11_rest_10 : decode cX11_rest 10 = .ok (.invokevirtual 90, 3) := by decide +kernel
theorem dX11_rest_13 : decode cX11_rest 13 = .ok (.ireturn, 1) := by decide +kernel
theorem dX11_rest_14 : decode cX11_rest 14 = .ok (.aload_n 0, 1) := by decide +kernel
theorem dX11_rest_15 : decode cX11_rest 15 = .ok (.getfield 72, 3) := by decide +kernel
theorem dX11_rest_18 : decode cX11_rest 18 = .ok (.getfield 126, 3) := by decide +kernel
theorem dX11_rest_21 : decode cX11_rest 21 = .ok (.iload_n 1, 1) := by decide +kernel
theorem dX11_rest_22 : decode cX11_rest 22 = .ok (.aaload, 1) := by decide +kernel
theorem dX11_rest_23 : decode cX11_rest 23 = .ok (.astore_n 2, 1) := by decide +kernel
theorem dX11_rest_24 : decode cX11_rest 24 = .ok (.aload_n 2, 1) := by decide +kernel
theorem dX11_rest_25 : decode cX11_rest 25 = .ok (.getfield 162, 3) := by decide +kernel
theorem dX11_rest_28 : decode cX11_rest 28 = .ok (.iconst 1, 1) := by decide +kernel
theorem dX11_rest_29 : decode cX11_rest 29 = .ok (.if_icmp .eq 9, 3) := by decide +kernel
theorem dX11_rest_32 : decode cX11_rest 32 = .ok (.aload_n 0, 1) := by decide +kernel
theorem dX11_rest_33 : decode cX11_rest 33 = .ok (.iconst 3, 1) := by decide +kernel
theorem dX11_rest_34 : decode cX11_rest 34 = .ok (.invokevirtual 90, 3) := by decide +kernel
theorem dX11_rest_37 : decode cX11_rest 37 = .ok (.ireturn, 1) := by decide +kernel
theorem dX11_rest_38 : decode cX11_rest 38 = .ok (.aload_n 2, 1) := by decide +kernel
theorem dX11_rest_39 : decode cX11_rest 39 = .ok (.iconst 0, 1) := by decide +kernel
theorem dX11_rest_40 : decode cX11_rest 40 = .ok (.putfield 162, 3) := by decide +kernel
theorem dX11_rest_43 : decode cX11_rest 43 = .ok (.aload_n 0, 1) := by decide +kernel
theorem dX11_rest_44 : decode cX11_rest 44 = .ok (.getfield 72, 3) := by decide +kernel
theorem dX11_rest_47 : decode cX11_rest 47 = .ok (.aload_n 2, 1) := by decide +kernel
theorem dX11_rest_48 : decode cX11_rest 48 = .ok (.getfield 169, 3) := by decide +kernel
theorem dX11_rest_51 : decode cX11_rest 51 = .ok (.invokevirtual 93, 3) := by decide +kernel
theorem dX11_rest_54 : decode cX11_rest 54 = .ok (.ireturn, 1) := by decide +kernel
theorem dX11_giveUp_0 : decode cX11_giveUp 0 = .ok (.aload_n 0, 1) := by decide +kernel
theorem dX11_giveUp_1 : decode cX11_giveUp 1 = .ok (.iload_n 1, 1) := by decide +kernel
theorem dX11_giveUp_2 : decode cX11_giveUp 2 = .ok (.invokevirtual 139, 3) := by decide +kernel
theorem dX11_giveUp_5 : decode cX11_giveUp 5 = .ok (.ifCond .ne 9, 3) := by decide +kernel
theorem dX11_giveUp_8 : decode cX11_giveUp 8 = .ok (.aload_n 0, 1) := by decide +kernel
theorem dX11_giveUp_9 : decode cX11_giveUp 9 = .ok (.iconst 1, 1) := by decide +kernel
theorem dX11_giveUp_10 : decode cX11_giveUp 10 = .ok (.invokevirtual 90, 3) := by decide +kernel
theorem dX11_giveUp_13 : decode cX11_giveUp 13 = .ok (.ireturn, 1) := by decide +kernel
theorem dX11_giveUp_14 : decode cX11_giveUp 14 = .ok (.aload_n 0, 1) := by decide +kernel
theorem dX11_giveUp_15 : decode cX11_giveUp 15 = .ok (.getfield 72, 3) := by decide +kernel
theorem dX11_giveUp_18 : decode cX11_giveUp 18 = .ok (.getfield 126, 3) := by decide +kernel
theorem dX11_giveUp_21 : decode cX11_giveUp 21 = .ok (.iload_n 1, 1) := by decide +kernel
theorem dX11_giveUp_22 : decode cX11_giveUp 22 = .ok (.aaload, 1) := by decide +kernel
theorem dX11_giveUp_23 : decode cX11_giveUp 23 = .ok (.astore_n 2, 1) := by decide +kernel
theorem dX11_giveUp_24 : decode cX11_giveUp 24 = .ok (.aload_n 2, 1) := by decide +kernel
theorem dX11_giveUp_25 : decode cX11_giveUp 25 = .ok (.invokevirtual 151, 3) := by decide +kernel
theorem dX11_giveUp_28 : decode cX11_giveUp 28 = .ok (.ifCond .ne 9, 3) := by decide +kernel
theorem dX11_giveUp_31 : decode cX11_giveUp 31 = .ok (.aload_n 0, 1) := by decide +kernel
theorem dX11_giveUp_32 : decode cX11_giveUp 32 = .ok (.iconst 3, 1) := by decide +kernel
theorem dX11_giveUp_33 : decode cX11_giveUp 33 = .ok (.invokevirtual 90, 3) := by decide +kernel
theorem dX11_giveUp_36 : decode cX11_giveUp 36 = .ok (.ireturn, 1) := by decide +kernel
theorem dX11_giveUp_37 : decode cX11_giveUp 37 = .ok (.aload_n 0, 1) := by decide +kernel
theorem dX11_giveUp_38 : decode cX11_giveUp 38 = .ok (.getfield 72, 3) := by decide +kernel
theorem dX11_giveUp_41 : decode cX11_giveUp 41 = .ok (.aload_n 2, 1) := by decide +kernel
theorem dX11_giveUp_42 : decode cX11_giveUp 42 = .ok (.invokevirtual 175, 3) := by decide +kernel
theorem dX11_giveUp_45 : decode cX11_giveUp 45 = .ok (.istore_n 3, 1) := by decide +kernel
theorem dX11_giveUp_46 : decode cX11_giveUp 46 = .ok (.aload_n 2, 1) := by decide +kernel
theorem dX11_giveUp_47 : decode cX11_giveUp 47 = .ok (.iconst 0, 1) := by decide +kernel
theorem dX11_giveUp_48 : decode cX11_giveUp 48 = .ok (.putfield 162, 3) := by decide +kernel
theorem dX11_giveUp_51 : decode cX11_giveUp 51 = .ok (.aload_n 2, 1) := by decide +kernel
theorem dX11_giveUp_52 : decode cX11_giveUp 52 = .ok (.iconst 1, 1) := by decide +kernel
theorem dX11_giveUp_53 : decode cX11_giveUp 53 = .ok (.putfield 165, 3) := by decide +kernel
theorem dX11_giveUp_56 : decode cX11_giveUp 56 = .ok (.aload_n 0, 1) := by decide +kernel
theorem dX11_giveUp_57 : decode cX11_giveUp 57 = .ok (.getfield 72, 3) := by decide +kernel
theorem dX11_giveUp_60 : decode cX11_giveUp 60 = .ok (.iload_n 3, 1) := by decide +kernel
theorem dX11_giveUp_61 : decode cX11_giveUp 61 = .ok (.invokevirtual 179, 3) := by decide +kernel
theorem dX11_giveUp_64 : decode cX11_giveUp 64 = .ok (.iload_n 3, 1) := by decide +kernel
theorem dX11_giveUp_65 : decode cX11_giveUp 65 = .ok (.ireturn, 1) := by decide +kernel
theorem dX11_refill_0 : decode cX11_refill 0 = .ok (.aload_n 0, 1) := by decide +kernel
theorem dX11_refill_1 : decode cX11_refill 1 = .ok (.iload_n 1, 1) := by decide +kernel
theorem dX11_refill_2 : decode cX11_refill 2 = .ok (.invokevirtual 139, 3) := by decide +kernel
theorem dX11_refill_5 : decode cX11_refill 5 = .ok (.ifCond .ne 9, 3) := by decide +kernel
theorem dX11_refill_8 : decode cX11_refill 8 = .ok (.aload_n 0, 1) := by decide +kernel
theorem dX11_refill_9 : decode cX11_refill 9 = .ok (.iconst 1, 1) := by decide +kernel
theorem dX11_refill_10 : decode cX11_refill 10 = .ok (.invokevirtual 90, 3) := by decide +kernel
theorem dX11_refill_13 : decode cX11_refill 13 = .ok (.ireturn, 1) := by decide +kernel
theorem dX11_refill_14 : decode cX11_refill 14 = .ok (.aload_n 0, 1) := by decide +kernel
theorem dX11_refill_15 : decode cX11_refill 15 = .ok (.getfield 72, 3) := by decide +kernel
theorem dX11_refill_18 : decode cX11_refill 18 = .ok (.getfield 126, 3) := by decide +kernel
theorem dX11_refill_21 : decode cX11_refill 21 = .ok (.iload_n 1, 1) := by decide +kernel
theorem dX11_refill_22 : decode cX11_refill 22 = .ok (.aaload, 1) := by decide +kernel
theorem dX11_refill_23 : decode cX11_refill 23 = .ok (.getfield 162, 3) := by decide +kernel
theorem dX11_refill_26 : decode cX11_refill 26 = .ok (.istore_n 2, 1) := by decide +kernel
theorem dX11_refill_27 : decode cX11_refill 27 = .ok (.aload_n 0, 1) := by decide +kernel
theorem dX11_refill_28 : decode cX11_refill 28 = .ok (.getfield 72, 3) := by decide +kernel
theorem dX11_refill_31 : decode cX11_refill 31 = .ok (.getfield 126, 3) := by decide +kernel
theorem dX11_refill_34 : decode cX11_refill 34 = .ok (.iload_n 1, 1) := by decide +kernel
theorem dX11_refill_35 : decode cX11_refill 35 = .ok (.aaload, 1) := by decide +kernel
theorem dX11_refill_36 : decode cX11_refill 36 = .ok (.invokevirtual 136, 3) := by decide +kernel
theorem dX11_refill_39 : decode cX11_refill 39 = .ok (.iload_n 2, 1) := by decide +kernel
theorem dX11_refill_40 : decode cX11_refill 40 = .ok (.ireturn, 1) := by decide +kernel
theorem dX11_feed_0 : decode cX11_feed 0 = .ok (.iload_n 3, 1) := by decide +kernel
theorem dX11_feed_1 : decode cX11_feed 1 = .ok (.iconst 1, 1) := by decide +kernel
theorem dX11_feed_2 : decode cX11_feed 2 = .ok (.bipush 8, 2) := by decide +kernel
theorem dX11_feed_4 : decode cX11_feed 4 = .ok (.invokestatic 82, 3) := by decide +kernel
theorem dX11_feed_7 : decode cX11_feed 7 = .ok (.ifCond .ne 9, 3) := by decide +kernel
theorem dX11_feed_10 : decode cX11_feed 10 = .ok (.aload_n 0, 1) := by decide +kernel
theorem dX11_feed_11 : decode cX11_feed 11 = .ok (.iconst 1, 1) := by decide +kernel
theorem dX11_feed_12 : decode cX11_feed 12 = .ok (.invokevirtual 90, 3) := by decide +kernel
theorem dX11_feed_15 : decode cX11_feed 15 = .ok (.ireturn, 1) := by decide +kernel
theorem dX11_feed_16 : decode cX11_feed 16 = .ok (.aload_n 0, 1) := by decide +kernel
theorem dX11_feed_17 : decode cX11_feed 17 = .ok (.getfield 72, 3) := by decide +kernel
theorem dX11_feed_20 : decode cX11_feed 20 = .ok (.getfield 182, 3) := by decide +kernel
theorem dX11_feed_23 : decode cX11_feed 23 = .ok (.iload_n 3, 1) := by decide +kernel
theorem dX11_feed_24 : decode cX11_feed 24 = .ok (.iadd, 1) := by decide +kernel
theorem dX11_feed_25 : decode cX11_feed 25 = .ok (.bipush 50, 2) := by decide +kernel
theorem dX11_feed_27 : decode cX11_feed 27 = .ok (.if_icmp .le 9, 3) := by decide +kernel
theorem dX11_feed_30 : decode cX11_feed 30 = .ok (.aload_n 0, 1) := by decide +kernel
theorem dX11_feed_31 : decode cX11_feed 31 = .ok (.iconst 4, 1) := by decide +kernel
theorem dX11_feed_32 : decode cX11_feed 32 = .ok (.invokevirtual 90, 3) := by decide +kernel
theorem dX11_feed_35 : decode cX11_feed 35 = .ok (.ireturn, 1) := by decide +kernel
theorem dX11_feed_36 : decode cX11_feed 36 = .ok (.iconst 0, 1) := by decide +kernel
theorem dX11_feed_37 : decode cX11_feed 37 = .ok (.istore 4, 2) := by decide +kernel
theorem dX11_feed_39 : decode cX11_feed 39 = .ok (.iload 4, 2) := by decide +kernel
theorem dX11_feed_41 : decode cX11_feed 41 = .ok (.iload_n 3, 1) := by decide +kernel
theorem dX11_feed_42 : decode cX11_feed 42 = .ok (.if_icmp .ge 46, 3) := by decide +kernel
theorem dX11_feed_45 : decode cX11_feed 45 = .ok (.aload_n 0, 1) := by decide +kernel
theorem dX11_feed_46 : decode cX11_feed 46 = .ok (.getfield 72, 3) := by decide +kernel
theorem dX11_feed_49 : decode cX11_feed 49 = .ok (.getfield 185, 3) := by decide +kernel
theorem dX11_feed_52 : decode cX11_feed 52 = .ok (.aload_n 0, 1) := by decide +kernel
theorem dX11_feed_53 : decode cX11_feed 53 = .ok (.getfield 72, 3) := by decide +kernel
theorem dX11_feed_56 : decode cX11_feed 56 = .ok (.getfield 182, 3) := by decide +kernel
theorem dX11_feed_59 : decode cX11_feed 59 = .ok (.lload_n 1, 1) := by decide +kernel
theorem dX11_feed_60 : decode cX11_feed 60 = .ok (.bipush 8, 2) := by decide +kernel
theorem dX11_feed_62 : decode cX11_feed 62 = .ok (.iload 4, 2) := by decide +kernel
theorem dX11_feed_64 : decode cX11_feed 64 = .ok (.imul, 1) := by decide +kernel
theorem dX11_feed_65 : decode cX11_feed 65 = .ok (.lushr, 1) := by decide +kernel
theorem dX11_feed_66 : decode cX11_feed 66 = .ok (.l2i, 1) := by decide +kernel
theorem dX11_feed_67 : decode cX11_feed 67 = .ok (.i2b, 1) := by decide +kernel
theorem dX11_feed_68 : decode cX11_feed 68 = .ok (.bastore, 1) := by decide +kernel
theorem dX11_feed_69 : decode cX11_feed 69 = .ok (.aload_n 0, 1) := by decide +kernel
theorem dX11_feed_70 : decode cX11_feed 70 = .ok (.getfield 72, 3) := by decide +kernel
theorem dX11_feed_73 : decode cX11_feed 73 = .ok (.dup, 1) := by decide +kernel
theorem dX11_feed_74 : decode cX11_feed 74 = .ok (.getfield 182, 3) := by decide +kernel
theorem dX11_feed_77 : decode cX11_feed 77 = .ok (.iconst 1, 1) := by decide +kernel
theorem dX11_feed_78 : decode cX11_feed 78 = .ok (.iadd, 1) := by decide +kernel
theorem dX11_feed_79 : decode cX11_feed 79 = .ok (.putfield 182, 3) := by decide +kernel
theorem dX11_feed_82 : decode cX11_feed 82 = .ok (.iinc 4 1, 3) := by decide +kernel
theorem dX11_feed_85 : decode cX11_feed 85 = .ok (.goto (-46), 3) := by decide +kernel
theorem dX11_feed_88 : decode cX11_feed 88 = .ok (.aload_n 0, 1) := by decide +kernel
theorem dX11_feed_89 : decode cX11_feed 89 = .ok (.getfield 72, 3) := by decide +kernel
theorem dX11_feed_92 : decode cX11_feed 92 = .ok (.getfield 182, 3) := by decide +kernel
theorem dX11_feed_95 : decode cX11_feed 95 = .ok (.ireturn, 1) := by decide +kernel
theorem dX11_text_0 : decode cX11_text 0 = .ok (.iload_n 1, 1) := by decide +kernel
theorem dX11_text_1 : decode cX11_text 1 = .ok (.iconst 0, 1) := by decide +kernel
theorem dX11_text_2 : decode cX11_text 2 = .ok (.iconst 1, 1) := by decide +kernel
theorem dX11_text_3 : decode cX11_text 3 = .ok (.invokestatic 82, 3) := by decide +kernel
theorem dX11_text_6 : decode cX11_text 6 = .ok (.ifCond .ne 9, 3) := by decide +kernel
theorem dX11_text_9 : decode cX11_text 9 = .ok (.aload_n 0, 1) := by decide +kernel
theorem dX11_text_10 : decode cX11_text 10 = .ok (.iconst 1, 1) := by decide +kernel
theorem dX11_text_11 : decode cX11_text 11 = .ok (.invokevirtual 90, 3) := by decide +kernel
theorem dX11_text_14 : decode cX11_text 14 = .ok (.ireturn, 1) := by decide +kernel
theorem dX11_text_15 : decode cX11_text 15 = .ok (.aload_n 0, 1) := by decide +kernel
theorem dX11_text_16 : decode cX11_text 16 = .ok (.getfield 72, 3) := by decide +kernel
theorem dX11_text_19 : decode cX11_text 19 = .ok (.iload_n 1, 1) := by decide +kernel
theorem dX11_text_20 : decode cX11_text 20 = .ok (.invokevirtual 189, 3) := by decide +kernel
theorem dX11_text_23 : decode cX11_text 23 = .ok (.aload_n 0, 1) := by decide +kernel
theorem dX11_text_24 : decode cX11_text 24 = .ok (.getfield 72, 3) := by decide +kernel
theorem dX11_text_27 : decode cX11_text 27 = .ok (.getfield 185, 3) := by decide +kernel
theorem dX11_text_30 : decode cX11_text 30 = .ok (.aload_n 0, 1) := by decide +kernel
theorem dX11_text_31 : decode cX11_text 31 = .ok (.getfield 72, 3) := by decide +kernel
theorem dX11_text_34 : decode cX11_text 34 = .ok (.getfield 182, 3) := by decide +kernel
theorem dX11_text_37 : decode cX11_text 37 = .ok (.invokevirtual 193, 3) := by decide +kernel
theorem dX11_text_40 : decode cX11_text 40 = .ok (.istore_n 2, 1) := by decide +kernel
theorem dX11_text_41 : decode cX11_text 41 = .ok (.aload_n 0, 1) := by decide +kernel
theorem dX11_text_42 : decode cX11_text 42 = .ok (.getfield 72, 3) := by decide +kernel
theorem dX11_text_45 : decode cX11_text 45 = .ok (.iconst 0, 1) := by decide +kernel
theorem dX11_text_46 : decode cX11_text 46 = .ok (.putfield 182, 3) := by decide +kernel
theorem dX11_text_49 : decode cX11_text 49 = .ok (.iload_n 2, 1) := by decide +kernel
theorem dX11_text_50 : decode cX11_text 50 = .ok (.ifCond .ge 7, 3) := by decide +kernel
theorem dX11_text_53 : decode cX11_text 53 = .ok (.iconst 1, 1) := by decide +kernel
theorem dX11_text_54 : decode cX11_text 54 = .ok (.goto 7, 3) := by decide +kernel
theorem dX11_text_57 : decode cX11_text 57 = .ok (.bipush (-10), 2) := by decide +kernel
theorem dX11_text_59 : decode cX11_text 59 = .ok (.iload_n 2, 1) := by decide +kernel
theorem dX11_text_60 : decode cX11_text 60 = .ok (.isub, 1) := by decide +kernel
theorem dX11_text_61 : decode cX11_text 61 = .ok (.ireturn, 1) := by decide +kernel
theorem dX11_law_0 : decode cX11_law 0 = .ok (.iload_n 1, 1) := by decide +kernel
theorem dX11_law_1 : decode cX11_law 1 = .ok (.iconst 0, 1) := by decide +kernel
theorem dX11_law_2 : decode cX11_law 2 = .ok (.iconst 1, 1) := by decide +kernel
theorem dX11_law_3 : decode cX11_law 3 = .ok (.invokestatic 82, 3) := by decide +kernel
theorem dX11_law_6 : decode cX11_law 6 = .ok (.ifCond .ne 9, 3) := by decide +kernel
theorem dX11_law_9 : decode cX11_law 9 = .ok (.aload_n 0, 1) := by decide +kernel
theorem dX11_law_10 : decode cX11_law 10 = .ok (.iconst 1, 1) := by decide +kernel
theorem dX11_law_11 : decode cX11_law 11 = .ok (.invokevirtual 90, 3) := by decide +kernel
theorem dX11_law_14 : decode cX11_law 14 = .ok (.ireturn, 1) := by decide +kernel
theorem dX11_law_15 : decode cX11_law 15 = .ok (.aload_n 0, 1) := by decide +kernel
theorem dX11_law_16 : decode cX11_law 16 = .ok (.getfield 72, 3) := by decide +kernel
theorem dX11_law_19 : decode cX11_law 19 = .ok (.iload_n 1, 1) := by decide +kernel
theorem dX11_law_20 : decode cX11_law 20 = .ok (.invokevirtual 189, 3) := by decide +kernel
theorem dX11_law_23 : decode cX11_law 23 = .ok (.iload_n 2, 1) := by decide +kernel
theorem dX11_law_24 : decode cX11_law 24 = .ok (.iload_n 3, 1) := by decide +kernel
theorem dX11_law_25 : decode cX11_law 25 = .ok (.iload 4, 2) := by decide +kernel
theorem dX11_law_27 : decode cX11_law 27 = .ok (.invokevirtual 199, 3) := by decide +kernel
theorem dX11_law_30 : decode cX11_law 30 = .ok (.ireturn, 1) := by decide +kernel
theorem dX11_quarters_0 : decode cX11_quarters 0 = .ok (.iload_n 1, 1) := by decide +kernel
theorem dX11_quarters_1 : decode cX11_quarters 1 = .ok (.iconst 1, 1) := by decide +kernel
theorem dX11_quarters_2 : decode cX11_quarters 2 = .ok (.sipush 300, 3) := by decide +kernel
theorem dX11_quarters_5 : decode cX11_quarters 5 = .ok (.invokestatic 82, 3) := by decide +kernel
theorem dX11_quarters_8 : decode cX11_quarters 8 = .ok (.ifCond .ne 9, 3) := by decide +kernel
theorem dX11_quarters_11 : decode cX11_quarters 11 = .ok (.aload_n 0, 1) := by decide +kernel
theorem dX11_quarters_12 : decode cX11_quarters 12 = .ok (.iconst 1, 1) := by decide +kernel
theorem dX11_quarters_13 : decode cX11_quarters 13 = .ok (.invokevirtual 90, 3) := by decide +kernel
theorem dX11_quarters_16 : decode cX11_quarters 16 = .ok (.ireturn, 1) := by decide +kernel
theorem dX11_quarters_17 : decode cX11_quarters 17 = .ok (.aload_n 0, 1) := by decide +kernel
theorem dX11_quarters_18 : decode cX11_quarters 18 = .ok (.getfield 72, 3) := by decide +kernel
theorem dX11_quarters_21 : decode cX11_quarters 21 = .ok (.getfield 105, 3) := by decide +kernel
theorem dX11_quarters_24 : decode cX11_quarters 24 = .ok (.iload_n 1, 1) := by decide +kernel
theorem dX11_quarters_25 : decode cX11_quarters 25 = .ok (.iadd, 1) := by decide +kernel
theorem dX11_quarters_26 : decode cX11_quarters 26 = .ok (.sipush 9999, 3) := by decide +kernel
theorem dX11_quarters_29 : decode cX11_quarters 29 = .ok (.if_icmp .le 9, 3) := by decide +kernel
theorem dX11_quarters_32 : decode cX11_quarters 32 = .ok (.aload_n 0, 1) := by decide +kernel
theorem dX11_quarters_33 : decode cX11_quarters 33 = .ok (.iconst 3, 1) := by decide +kernel
theorem dX11_quarters_34 : decode cX11_quarters 34 = .ok (.invokevirtual 90, 3) := by decide +kernel
theorem dX11_quarters_37 : decode cX11_quarters 37 = .ok (.ireturn, 1) := by decide +kernel
theorem dX11_quarters_38 : decode cX11_quarters 38 = .ok (.iconst 0, 1) := by decide +kernel
theorem dX11_quarters_39 : decode cX11_quarters 39 = .ok (.istore_n 2, 1) := by decide +kernel
theorem dX11_quarters_40 : decode cX11_quarters 40 = .ok (.iload_n 2, 1) := by decide +kernel
theorem dX11_quarters_41 : decode cX11_quarters 41 = .ok (.iload_n 1, 1) := by decide +kernel
theorem dX11_quarters_42 : decode cX11_quarters 42 = .ok (.if_icmp .ge 16, 3) := by decide +kernel
theorem dX11_quarters_45 : decode cX11_quarters 45 = .ok (.aload_n 0, 1) := by decide +kernel
theorem dX11_quarters_46 : decode cX11_quarters 46 = .ok (.getfield 72, 3) := by decide +kernel
theorem dX11_quarters_49 : decode cX11_quarters 49 = .ok (.invokevirtual 203, 3) := by decide +kernel
theorem dX11_quarters_52 : decode cX11_quarters 52 = .ok (.iinc 2 1, 3) := by decide +kernel
theorem dX11_quarters_55 : decode cX11_quarters 55 = .ok (.goto (-15), 3) := by decide +kernel
theorem dX11_quarters_58 : decode cX11_quarters 58 = .ok (.aload_n 0, 1) := by decide +kernel
theorem dX11_quarters_59 : decode cX11_quarters 59 = .ok (.getfield 72, 3) := by decide +kernel
theorem dX11_quarters_62 : decode cX11_quarters 62 = .ok (.getfield 206, 3) := by decide +kernel
theorem dX11_quarters_65 : decode cX11_quarters 65 = .ok (.ireturn, 1) := by decide +kernel
theorem dX11_days_0 : decode cX11_days 0 = .ok (.iload_n 1, 1) := by decide +kernel
theorem dX11_days_1 : decode cX11_days 1 = .ok (.iconst 1, 1) := by decide +kernel
theorem dX11_days_2 : decode cX11_days 2 = .ok (.bipush 20, 2) := by decide +kernel
theorem dX11_days_4 : decode cX11_days 4 = .ok (.invokestatic 82, 3) := by decide +kernel
theorem dX11_days_7 : decode cX11_days 7 = .ok (.ifCond .ne 9, 3) := by decide +kernel
theorem dX11_days_10 : decode cX11_days 10 = .ok (.aload_n 0, 1) := by decide +kernel
theorem dX11_days_11 : decode cX11_days 11 = .ok (.iconst 1, 1) := by decide +kernel
theorem dX11_days_12 : decode cX11_days 12 = .ok (.invokevirtual 90, 3) := by decide +kernel
theorem dX11_days_15 : decode cX11_days 15 = .ok (.ireturn, 1) := by decide +kernel
theorem dX11_days_16 : decode cX11_days 16 = .ok (.aload_n 0, 1) := by decide +kernel
theorem dX11_days_17 : decode cX11_days 17 = .ok (.getfield 72, 3) := by decide +kernel
theorem dX11_days_20 : decode cX11_days 20 = .ok (.getfield 105, 3) := by decide +kernel
theorem dX11_days_23 : decode cX11_days 23 = .ok (.bipush 16, 2) := by decide +kernel
theorem dX11_days_25 : decode cX11_days 25 = .ok (.iload_n 1, 1) := by decide +kernel
theorem dX11_days_26 : decode cX11_days 26 = .ok (.imul, 1) := by decide +kernel
theorem dX11_days_27 : decode cX11_days 27 = .ok (.iadd, 1) := by decide +kernel
theorem dX11_days_28 : decode cX11_days 28 = .ok (.sipush 9999, 3) := by decide +kernel
theorem dX11_days_31 : decode cX11_days 31 = .ok (.if_icmp .le 9, 3) := by decide +kernel
theorem dX11_days_34 : decode cX11_days 34 = .ok (.aload_n 0, 1) := by decide +kernel
theorem dX11_days_35 : decode cX11_days 35 = .ok (.iconst 3, 1) := by decide +kernel
theorem dX11_days_36 : decode cX11_days 36 = .ok (.invokevirtual 90, 3) := by decide +kernel
theorem dX11_days_39 : decode cX11_days 39 = .ok (.ireturn, 1) := by decide +kernel
theorem dX11_days_40 : decode cX11_days 40 = .ok (.iconst 0, 1) := by decide +kernel
theorem dX11_days_41 : decode cX11_days 41 = .ok (.istore_n 2, 1) := by decide +kernel
theorem dX11_days_42 : decode cX11_days 42 = .ok (.iload_n 2, 1) := by decide +kernel
theorem dX11_days_43 : decode cX11_days 43 = .ok (.bipush 16, 2) := by decide +kernel
theorem dX11_days_45 : decode cX11_days 45 = .ok (.iload_n 1, 1) := by decide +kernel
theorem dX11_days_46 : decode cX11_days 46 = .ok (.imul, 1) := by decide +kernel
theorem dX11_days_47 : decode cX11_days 47 = .ok (.if_icmp .ge 37, 3) := by decide +kernel
theorem dX11_days_50 : decode cX11_days 50 = .ok (.aload_n 0, 1) := by decide +kernel
theorem dX11_days_51 : decode cX11_days 51 = .ok (.getfield 72, 3) := by decide +kernel
theorem dX11_days_54 : decode cX11_days 54 = .ok (.invokevirtual 209, 3) := by decide +kernel
theorem dX11_days_57 : decode cX11_days 57 = .ok (.bipush 16, 2) := by decide +kernel
theorem dX11_days_59 : decode cX11_days 59 = .ok (.irem, 1) := by decide +kernel
theorem dX11_days_60 : decode cX11_days 60 = .ok (.ifCond .ne 11, 3) := by decide +kernel
theorem dX11_days_63 : decode cX11_days 63 = .ok (.aload_n 0, 1) := by decide +kernel
theorem dX11_days_64 : decode cX11_days 64 = .ok (.getfield 72, 3) := by decide +kernel
theorem dX11_days_67 : decode cX11_days 67 = .ok (.invokevirtual 213, 3) := by decide +kernel
theorem dX11_days_70 : decode cX11_days 70 = .ok (.pop, 1) := by decide +kernel
theorem dX11_days_71 : decode cX11_days 71 = .ok (.aload_n 0, 1) := by decide +kernel
theorem dX11_days_72 : decode cX11_days 72 = .ok (.getfield 72, 3) := by decide +kernel
theorem dX11_days_75 : decode cX11_days 75 = .ok (.invokevirtual 203, 3) := by decide +kernel
theorem dX11_days_78 : decode cX11_days 78 = .ok (.iinc 2 1, 3) := by decide +kernel
theorem dX11_days_81 : decode cX11_days 81 = .ok (.goto (-39), 3) := by decide +kernel
theorem dX11_days_84 : decode cX11_days 84 = .ok (.aload_n 0, 1) := by decide +kernel
theorem dX11_days_85 : decode cX11_days 85 = .ok (.getfield 72, 3) := by decide +kernel
theorem dX11_days_88 : decode cX11_days 88 = .ok (.getfield 206, 3) := by decide +kernel
theorem dX11_days_91 : decode cX11_days 91 = .ok (.ireturn, 1) := by decide +kernel
theorem dX11_thunder_0 : decode cX11_thunder 0 = .ok (.aload_n 0, 1) := by decide +kernel
theorem dX11_thunder_1 : decode cX11_thunder 1 = .ok (.getfield 72, 3) := by decide +kernel
theorem dX11_thunder_4 : decode cX11_thunder 4 = .ok (.invokevirtual 213, 3) := by decide +kernel
theorem dX11_thunder_7 : decode cX11_thunder 7 = .ok (.ireturn, 1) := by decide +kernel
theorem dX11_then_0 : decode cX11_then 0 = .ok (.iload_n 1, 1) := by decide +kernel
theorem dX11_then_1 : decode cX11_then 1 = .ok (.iconst 0, 1) := by decide +kernel
theorem dX11_then_2 : decode cX11_then 2 = .ok (.sipush 300, 3) := by decide +kernel
theorem dX11_then_5 : decode cX11_then 5 = .ok (.invokestatic 82, 3) := by decide +kernel
theorem dX11_then_8 : decode cX11_then 8 = .ok (.ifCond .eq 21, 3) := by decide +kernel
theorem dX11_then_11 : decode cX11_then 11 = .ok (.aload_n 0, 1) := by decide +kernel
theorem dX11_then_12 : decode cX11_then 12 = .ok (.iload_n 2, 1) := by decide +kernel
theorem dX11_then_13 : decode cX11_then 13 = .ok (.invokevirtual 139, 3) := by decide +kernel
theorem dX11_then_16 : decode cX11_then 16 = .ok (.ifCond .eq 13, 3) := by decide +kernel
theorem dX11_then_19 : decode cX11_then 19 = .ok (.iload_n 3, 1) := by decide +kernel
theorem dX11_then_20 : decode cX11_then 20 = .ok (.iconst 2, 1) := by decide +kernel
theorem dX11_then_21 : decode cX11_then 21 = .ok (.bipush 7, 2) := by decide +kernel
theorem dX11_then_23 : decode cX11_then 23 = .ok (.invokestatic 82, 3) := by decide +kernel
theorem dX11_then_26 : decode cX11_then 26 = .ok (.ifCond .ne 9, 3) := by decide +kernel
theorem dX11_then_29 : decode cX11_then 29 = .ok (.aload_n 0, 1) := by decide +kernel
theorem dX11_then_30 : decode cX11_then 30 = .ok (.iconst 1, 1) := by decide +kernel
theorem dX11_then_31 : decode cX11_then 31 = .ok (.invokevirtual 90, 3) := by decide +kernel
theorem dX11_then_34 : decode cX11_then 34 = .ok (.ireturn, 1) := by decide +kernel
theorem dX11_then_35 : decode cX11_then 35 = .ok (.aload_n 0, 1) := by decide +kernel
theorem dX11_then_36 : decode cX11_then 36 = .ok (.getfield 38, 3) := by decide +kernel
theorem dX11_then_39 : decode cX11_then 39 = .ok (.iconst 0, 1) := by decide +kernel
theorem dX11_then_40 : decode cX11_then 40 = .ok (.aaload, 1) := by decide +kernel
theorem dX11_then_41 : decode cX11_then 41 = .ok (.astore 4, 2) := by decide +kernel
theorem dX11_then_43 : decode cX11_then 43 = .ok (.aload 4, 2) := by decide +kernel
theorem dX11_then_45 : decode cX11_then 45 = .ok (.aload_n 0, 1) := by decide +kernel
theorem dX11_then_46 : decode cX11_then 46 = .ok (.getfield 72, 3) := by decide +kernel
theorem dX11_then_49 : decode cX11_then 49 = .ok (.getfield 126, 3) := by decide +kernel
theorem dX11_then_52 : decode cX11_then 52 = .ok (.iload_n 2, 1) := by decide +kernel
theorem dX11_then_53 : decode cX11_then 53 = .ok (.aaload, 1) := by decide +kernel
theorem dX11_then_54 : decode cX11_then 54 = .ok (.invokevirtual 216, 3) := by decide +kernel
theorem dX11_then_57 : decode cX11_then 57 = .ok (.iconst 0, 1) := by decide +kernel
theorem dX11_then_58 : decode cX11_then 58 = .ok (.istore 5, 2) := by decide +kernel
theorem dX11_then_60 : decode cX11_then 60 = .ok (.iload 5, 2) := by decide +kernel
theorem dX11_then_62 : decode cX11_then 62 = .ok (.iload_n 1, 1) := by decide +kernel
theorem dX11_then_63 : decode cX11_then 63 = .ok (.if_icmp .ge 29, 3) := by decide +kernel
theorem dX11_then_66 : decode cX11_then 66 = .ok (.aload_n 0, 1) := by decide +kernel
theorem dX11_then_67 : decode cX11_then 67 = .ok (.getfield 72, 3) := by decide +kernel
theorem dX11_then_70 : decode cX11_then 70 = .ok (.aload 4, 2) := by decide +kernel
theorem dX11_then_72 : decode cX11_then 72 = .ok (.aload_n 0, 1) := by decide +kernel
theorem dX11_then_73 : decode cX11_then 73 = .ok (.getfield 72, 3) := by decide +kernel
theorem dX11_then_76 : decode cX11_then 76 = .ok (.getfield 105, 3) := by decide +kernel
theorem dX11_then_79 : decode cX11_then 79 = .ok (.iload 5, 2) := by decide +kernel
theorem dX11_then_81 : decode cX11_then 81 = .ok (.iadd, 1) := by decide +kernel
theorem dX11_then_82 : decode cX11_then 82 = .ok (.invokevirtual 220, 3) := by decide +kernel
theorem dX11_then_85 : decode cX11_then 85 = .ok (.pop, 1) := by decide +kernel
theorem dX11_then_86 : decode cX11_then 86 = .ok (.iinc 5 1, 3) := by decide +kernel
theorem dX11_then_89 : decode cX11_then 89 = .ok (.goto (-29), 3) := by decide +kernel
theorem dX11_then_92 : decode cX11_then 92 = .ok (.aload 4, 2) := by decide +kernel
theorem dX11_then_94 : decode cX11_then 94 = .ok (.iload_n 3, 1) := by decide +kernel
theorem dX11_then_95 : decode cX11_then 95 = .ok (.invokevirtual 142, 3) := by decide +kernel
theorem dX11_then_98 : decode cX11_then 98 = .ok (.ireturn, 1) := by decide +kernel
theorem dX11_relays_0 : decode cX11_relays 0 = .ok (.aload_n 0, 1) := by decide +kernel
theorem dX11_relays_1 : decode cX11_relays 1 = .ok (.iload_n 1, 1) := by decide +kernel
theorem dX11_relays_2 : decode cX11_relays 2 = .ok (.invokevirtual 139, 3) := by decide +kernel
theorem dX11_relays_5 : decode cX11_relays 5 = .ok (.ifCond .eq 23, 3) := by decide +kernel
theorem dX11_relays_8 : decode cX11_relays 8 = .ok (.iload_n 2, 1) := by decide +kernel
theorem dX11_relays_9 : decode cX11_relays 9 = .ok (.iconst 0, 1) := by decide +kernel
theorem dX11_relays_10 : decode cX11_relays 10 = .ok (.bipush 60, 2) := by decide +kernel
theorem dX11_relays_12 : decode cX11_relays 12 = .ok (.invokestatic 82, 3) := by decide +kernel
theorem dX11_relays_15 : decode cX11_relays 15 = .ok (.ifCond .eq 13, 3) := by decide +kernel
theorem dX11_relays_18 : decode cX11_relays 18 = .ok (.iload_n 3, 1) := by decide +kernel
theorem dX11_relays_19 : decode cX11_relays 19 = .ok (.iconst (-1), 1) := by decide +kernel
theorem dX11_relays_20 : decode cX11_relays 20 = .ok (.bipush 8, 2) := by decide +kernel
theorem dX11_relays_22 : decode cX11_relays 22 = .ok (.invokestatic 82, 3) := by decide +kernel
theorem dX11_relays_25 : decode cX11_relays 25 = .ok (.ifCond .ne 9, 3) := by decide +kernel
theorem dX11_relays_28 : decode cX11_relays 28 = .ok (.aload_n 0, 1) := by decide +kernel
theorem dX11_relays_29 : decode cX11_relays 29 = .ok (.iconst 1, 1) := by decide +kernel
theorem dX11_relays_30 : decode cX11_relays 30 = .ok (.invokevirtual 90, 3) := by decide +kernel
theorem dX11_relays_33 : decode cX11_relays 33 = .ok (.ireturn, 1) := by decide +kernel
theorem dX11_relays_34 : decode cX11_relays 34 = .ok (.aload_n 0, 1) := by decide +kernel
theorem dX11_relays_35 : decode cX11_relays 35 = .ok (.getfield 72, 3) := by decide +kernel
theorem dX11_relays_38 : decode cX11_relays 38 = .ok (.getfield 126, 3) := by decide +kernel
theorem dX11_relays_41 : decode cX11_relays 41 = .ok (.iload_n 1, 1) := by decide +kernel
theorem dX11_relays_42 : decode cX11_relays 42 = .ok (.aaload, 1) := by decide +kernel
theorem dX11_relays_43 : decode cX11_relays 43 = .ok (.astore 4, 2) := by decide +kernel
theorem dX11_relays_45 : decode cX11_relays 45 = .ok (.aload 4, 2) := by decide +kernel
theorem dX11_relays_47 : decode cX11_relays 47 = .ok (.invokevirtual 224, 3) := by decide +kernel
theorem dX11_relays_50 : decode cX11_relays 50 = .ok (.ifCond .ne 9, 3) := by decide +kernel
theorem dX11_relays_53 : decode cX11_relays 53 = .ok (.aload_n 0, 1) := by decide +kernel
theorem dX11_relays_54 : decode cX11_relays 54 = .ok (.iconst 3, 1) := by decide +kernel
theorem dX11_relays_55 : decode cX11_relays 55 = .ok (.invokevirtual 90, 3) := by decide +kernel
theorem dX11_relays_58 : decode cX11_relays 58 = .ok (.ireturn, 1) := by decide +kernel
theorem dX11_relays_59 : decode cX11_relays 59 = .ok (.aload_n 0, 1) := by decide +kernel
theorem dX11_relays_60 : decode cX11_relays 60 = .ok (.getfield 45, 3) := by decide +kernel
theorem dX11_relays_63 : decode cX11_relays 63 = .ok (.aload_n 0, 1) := by decide +kernel
theorem dX11_relays_64 : decode cX11_relays 64 = .ok (.getfield 72, 3) := by decide +kernel
theorem dX11_relays_67 : decode cX11_relays 67 = .ok (.aload 4, 2) := by decide +kernel
theorem dX11_relays_69 : decode cX11_relays 69 = .ok (.iload_n 2, 1) := by decide +kernel
theorem dX11_relays_70 : decode cX11_relays 70 = .ok (.invokevirtual 227, 3) := by decide +kernel
theorem dX11_relays_73 : decode cX11_relays 73 = .ok (.aload_n 0, 1) := by decide +kernel
theorem dX11_relays_74 : decode cX11_relays 74 = .ok (.getfield 45, 3) := by decide +kernel
theorem dX11_relays_77 : decode cX11_relays 77 = .ok (.invokevirtual 231, 3) := by decide +kernel
theorem dX11_relays_80 : decode cX11_relays 80 = .ok (.istore 5, 2) := by decide +kernel
theorem dX11_relays_82 : decode cX11_relays 82 = .ok (.iload 5, 2) := by decide +kernel
theorem dX11_relays_84 : decode cX11_relays 84 = .ok (.ifCond .lt 16, 3) := by decide +kernel
theorem dX11_relays_87 : decode cX11_relays 87 = .ok (.iload_n 3, 1) := by decide +kernel
theorem dX11_relays_88 : decode cX11_relays 88 = .ok (.ifCond .lt 18, 3) := by decide +kernel
theorem dX11_relays_91 : decode cX11_relays 91 = .ok (.iload_n 3, 1) := by decide +kernel
theorem dX11_relays_92 : decode cX11_relays 92 = .ok (.aload 4, 2) := by decide +kernel
theorem dX11_relays_94 : decode cX11_relays 94 = .ok (.getfield 169, 3) := by decide +kernel
theorem dX11_relays_97 : decode cX11_relays 97 = .ok (.if_icmp .ge 9, 3) := by decide +kernel
theorem dX11_relays_100 : decode cX11_relays 100 = .ok (.aload_n 0, 1) := by decide +kernel
theorem dX11_relays_101 : decode cX11_relays 101 = .ok (.iconst 2, 1) := by decide +kernel
theorem dX11_relays_102 : decode cX11_relays 102 = .ok (.invokevirtual 90, 3) := by decide +kernel
theorem dX11_relays_105 : decode cX11_relays 105 = .ok (.ireturn, 1) := by decide +kernel
theorem dX11_relays_106 : decode cX11_relays 106 = .ok (.iload_n 3, 1) := by decide +kernel
theorem dX11_relays_107 : decode cX11_relays 107 = .ok (.ifCond .ge 8, 3) := by decide +kernel
theorem dX11_relays_110 : decode cX11_relays 110 = .ok (.iload 5, 2) := by decide +kernel
theorem dX11_relays_112 : decode cX11_relays 112 = .ok (.goto 11, 3) := by decide +kernel
theorem dX11_relays_115 : decode cX11_relays 115 = .ok (.aload_n 0, 1) := by decide +kernel
theorem dX11_relays_116 : decode cX11_relays 116 = .ok (.getfield 45, 3) := by decide +kernel
theorem dX11_relays_119 : decode cX11_relays 119 = .ok (.iload_n 3, 1) := by decide +kernel
theorem dX11_relays_120 : decode cX11_relays 120 = .ok (.invokevirtual 234, 3) := by decide +kernel
theorem dX11_relays_123 : decode cX11_relays 123 = .ok (.ireturn, 1) := by decide +kernel
theorem dX11_turnsAt_0 : decode cX11_turnsAt 0 = .ok (.aload_n 0, 1) := by decide +kernel
theorem dX11_turnsAt_1 : decode cX11_turnsAt 1 = .ok (.iload_n 1, 1) := by decide +kernel
theorem dX11_turnsAt_2 : decode cX11_turnsAt 2 = .ok (.invokevirtual 139, 3) := by decide +kernel
theorem dX11_turnsAt_5 : decode cX11_turnsAt 5 = .ok (.ifCond .eq 10, 3) := by decide +kernel
theorem dX11_turnsAt_8 : decode cX11_turnsAt 8 = .ok (.iload_n 2, 1) := by decide +kernel
theorem dX11_turnsAt_9 : decode cX11_turnsAt 9 = .ok (.invokestatic 113, 3) := by decide +kernel
theorem dX11_turnsAt_12 : decode cX11_turnsAt 12 = .ok (.ifCond .ne 9, 3) := by decide +kernel
theorem dX11_turnsAt_15 : decode cX11_turnsAt 15 = .ok (.aload_n 0, 1) := by decide +kernel
theorem dX11_turnsAt_16 : decode cX11_turnsAt 16 = .ok (.iconst 1, 1) := by decide +kernel
theorem dX11_turnsAt_17 : decode cX11_turnsAt 17 = .ok (.invokevirtual 90, 3) := by decide +kernel
theorem dX11_turnsAt_20 : decode cX11_turnsAt 20 = .ok (.ireturn, 1) := by decide +kernel
theorem dX11_turnsAt_21 : decode cX11_turnsAt 21 = .ok (.aload_n 0, 1) := by decide +kernel
theorem dX11_turnsAt_22 : decode cX11_turnsAt 22 = .ok (.getfield 72, 3) := by decide +kernel
theorem dX11_turnsAt_25 : decode cX11_turnsAt 25 = .ok (.getfield 126, 3) := by decide +kernel
theorem dX11_turnsAt_28 : decode cX11_turnsAt 28 = .ok (.iload_n 1, 1) := by decide +kernel
theorem dX11_turnsAt_29 : decode cX11_turnsAt 29 = .ok (.aaload, 1) := by decide +kernel
theorem dX11_turnsAt_30 : decode cX11_turnsAt 30 = .ok (.invokevirtual 224, 3) := by decide +kernel
theorem dX11_turnsAt_33 : decode cX11_turnsAt 33 = .ok (.ifCond .ne 9, 3) := by decide +kernel
theorem dX11_turnsAt_36 : decode cX11_turnsAt 36 = .ok (.aload_n 0, 1) := by decide +kernel
theorem dX11_turnsAt_37 : decode cX11_turnsAt 37 = .ok (.iconst 3, 1) := by decide +kernel
theorem dX11_turnsAt_38 : decode cX11_turnsAt 38 = .ok (.invokevirtual 90, 3) := by decide +kernel
theorem dX11_turnsAt_41 : decode cX11_turnsAt 41 = .ok (.ireturn, 1) := by decide +kernel
theorem dX11_turnsAt_42 : decode cX11_turnsAt 42 = .ok (.aload_n 0, 1) := by decide +kernel
theorem dX11_turnsAt_43 : decode cX11_turnsAt 43 = .ok (.getfield 38, 3) := by decide +kernel
theorem dX11_turnsAt_46 : decode cX11_turnsAt 46 = .ok (.iconst 0, 1) := by decide +kernel
theorem dX11_turnsAt_47 : decode cX11_turnsAt 47 = .ok (.aaload, 1) := by decide +kernel
theorem dX11_turnsAt_48 : decode cX11_turnsAt 48 = .ok (.astore_n 3, 1) := by decide +kernel
theorem dX11_turnsAt_49 : decode cX11_turnsAt 49 = .ok (.aload_n 3, 1) := by decide +kernel
theorem dX11_turnsAt_50 : decode cX11_turnsAt 50 = .ok (.aload_n 0, 1) := by decide +kernel
theorem dX11_turnsAt_51 : decode cX11_turnsAt 51 = .ok (.getfield 72, 3) := by decide +kernel
theorem dX11_turnsAt_54 : decode cX11_turnsAt 54 = .ok (.getfield 126, 3) := by decide +kernel
theorem dX11_turnsAt_57 : decode cX11_turnsAt 57 = .ok (.iload_n 1, 1) := by decide +kernel
theorem dX11_turnsAt_58 : decode cX11_turnsAt 58 = .ok (.aaload, 1) := by decide +kernel
theorem dX11_turnsAt_59 : decode cX11_turnsAt 59 = .ok (.invokevirtual 216, 3) := by decide +kernel
theorem dX11_turnsAt_62 : decode cX11_turnsAt 62 = .ok (.aload_n 0, 1) := by decide +kernel
theorem dX11_turnsAt_63 : decode cX11_turnsAt 63 = .ok (.aload_n 3, 1) := by decide +kernel
theorem dX11_turnsAt_64 : decode cX11_turnsAt 64 = .ok (.iload_n 2, 1) := by decide +kernel
theorem dX11_turnsAt_65 : decode cX11_turnsAt 65 = .ok (.invokevirtual 237, 3) := by decide +kernel
theorem dX11_turnsAt_68 : decode cX11_turnsAt 68 = .ok (.ireturn, 1) := by decide +kernel
theorem dX11_bestGiven_0 : decode cX11_bestGiven 0 = .ok (.aload_n 0, 1) := by decide +kernel
theorem dX11_bestGiven_1 : decode cX11_bestGiven 1 = .ok (.iload_n 1, 1) := by decide +kernel
theorem dX11_bestGiven_2 : decode cX11_bestGiven 2 = .ok (.invokevirtual 139, 3) := by decide +kernel
theorem dX11_bestGiven_5 : decode cX11_bestGiven 5 = .ok (.ifCond .eq 19, 3) := by decide +kernel
theorem dX11_bestGiven_8 : decode cX11_bestGiven 8 = .ok (.iload_n 2, 1) := by decide +kernel
theorem dX11_bestGiven_9 : decode cX11_bestGiven 9 = .ok (.invokestatic 113, 3) := by decide +kernel
theorem dX11_bestGiven_12 : decode cX11_bestGiven 12 = .ok (.ifCond .eq 12, 3) := by decide +kernel
theorem dX11_bestGiven_15 : decode cX11_bestGiven 15 = .ok (.iload_n 3, 1) := by decide +kernel
theorem dX11_bestGiven_16 : decode cX11_bestGiven 16 = .ok (.iconst 0, 1) := by decide +kernel
theorem dX11_bestGiven_17 : decode cX11_bestGiven 17 = .ok (.iconst 1, 1) := by decide +kernel
theorem dX11_bestGiven_18 : decode cX11_bestGiven 18 = .ok (.invokestatic 82, 3) := by decide +kernel
theorem dX11_bestGiven_21 : decode cX11_bestGiven 21 = .ok (.ifCond .ne 9, 3) := by decide +kernel
theorem dX11_bestGiven_24 : decode cX11_bestGiven 24 = .ok (.aload_n 0, 1) := by decide +kernel
theorem dX11_bestGiven_25 : decode cX11_bestGiven 25 = .ok (.iconst 1, 1) := by decide +kernel
theorem dX11_bestGiven_26 : decode cX11_bestGiven 26 = .ok (.invokevirtual 90, 3) := by decide +kernel
theorem dX11_bestGiven_29 : decode cX11_bestGiven 29 = .ok (.ireturn, 1) := by decide +kernel
theorem dX11_bestGiven_30 : decode cX11_bestGiven 30 = .ok (.aload_n 0, 1) := by decide +kernel
theorem dX11_bestGiven_31 : decode cX11_bestGiven 31 = .ok (.getfield 72, 3) := by decide +kernel
theorem dX11_bestGiven_34 : decode cX11_bestGiven 34 = .ok (.getfield 126, 3) := by decide +kernel
theorem dX11_bestGiven_37 : decode cX11_bestGiven 37 = .ok (.iload_n 1, 1) := by decide +kernel
theorem dX11_bestGiven_38 : decode cX11_bestGiven 38 = .ok (.aaload, 1) := by decide +kernel
theorem dX11_bestGiven_39 : decode cX11_bestGiven 39 = .ok (.invokevirtual 151, 3) := by decide +kernel
theorem dX11_bestGiven_42 : decode cX11_bestGiven 42 = .ok (.ifCond .ne 9, 3) := by decide +kernel
theorem dX11_bestGiven_45 : decode cX11_bestGiven 45 = .ok (.aload_n 0, 1) := by decide +kernel
theorem dX11_bestGiven_46 : decode cX11_bestGiven 46 = .ok (.iconst 3, 1) := by decide +kernel
theorem dX11_bestGiven_47 : decode cX11_bestGiven 47 = .ok (.invokevirtual 90, 3) := by decide +kernel
theorem dX11_bestGiven_50 : decode cX11_bestGiven 50 = .ok (.ireturn, 1) := by decide +kernel
theorem dX11_bestGiven_51 : decode cX11_bestGiven 51 = .ok (.aload_n 0, 1) := by decide +kernel
theorem dX11_bestGiven_52 : decode cX11_bestGiven 52 = .ok (.getfield 38, 3) := by decide +kernel
theorem dX11_bestGiven_55 : decode cX11_bestGiven 55 = .ok (.iconst 0, 1) := by decide +kernel
theorem dX11_bestGiven_56 : decode cX11_bestGiven 56 = .ok (.aaload, 1) := by decide +kernel
theorem dX11_bestGiven_57 : decode cX11_bestGiven 57 = .ok (.astore 4, 2) := by decide +kernel
theorem dX11_bestGiven_59 : decode cX11_bestGiven 59 = .ok (.aload 4, 2) := by decide +kernel
theorem dX11_bestGiven_61 : decode cX11_bestGiven 61 = .ok (.aload_n 0, 1) := by decide +kernel
theorem dX11_bestGiven_62 : decode cX11_bestGiven 62 = .ok (.getfield 72, 3) := by decide +kernel
theorem dX11_bestGiven_65 : decode cX11_bestGiven 65 = .ok (.getfield 126, 3) := by decide +kernel
theorem dX11_bestGiven_68 : decode cX11_bestGiven 68 = .ok (.iload_n 1, 1) := by decide +kernel
theorem dX11_bestGiven_69 : decode cX11_bestGiven 69 = .ok (.aaload, 1) := by decide +kernel
theorem dX11_bestGiven_70 : decode cX11_bestGiven 70 = .ok (.invokevirtual 216, 3) := by decide +kernel
theorem dX11_bestGiven_73 : decode cX11_bestGiven 73 = .ok (.aload_n 0, 1) := by decide +kernel
theorem dX11_bestGiven_74 : decode cX11_bestGiven 74 = .ok (.getfield 72, 3) := by decide +kernel
theorem dX11_bestGiven_77 : decode cX11_bestGiven 77 = .ok (.aload 4, 2) := by decide +kernel
theorem dX11_bestGiven_79 : decode cX11_bestGiven 79 = .ok (.invokevirtual 175, 3) := by decide +kernel
theorem dX11_bestGiven_82 : decode cX11_bestGiven 82 = .ok (.istore 5, 2) := by decide +kernel
theorem dX11_bestGiven_84 : decode cX11_bestGiven 84 = .ok (.aload 4, 2) := by decide +kernel
theorem dX11_bestGiven_86 : decode cX11_bestGiven 86 = .ok (.getfield 169, 3) := by decide +kernel
theorem dX11_bestGiven_89 : decode cX11_bestGiven 89 = .ok (.istore 6, 2) := by decide +kernel
theorem dX11_bestGiven_91 : decode cX11_bestGiven 91 = .ok (.aload_n 0, 1) := by decide +kernel
theorem dX11_bestGiven_92 : decode cX11_bestGiven 92 = .ok (.getfield 72, 3) := by decide +kernel
theorem dX11_bestGiven_95 : decode cX11_bestGiven 95 = .ok (.getfield 105, 3) := by decide +kernel
theorem dX11_bestGiven_98 : decode cX11_bestGiven 98 = .ok (.istore 7, 2) := by decide +kernel
theorem dX11_bestGiven_100 : decode cX11_bestGiven 100 = .ok (.aload 4, 2) := by decide +kernel
theorem dX11_bestGiven_102 : decode cX11_bestGiven 102 = .ok (.getfield 169, 3) := by decide +kernel
theorem dX11_bestGiven_105 : decode cX11_bestGiven 105 = .ok (.iconst 1, 1) := by decide +kernel
theorem dX11_bestGiven_106 : decode cX11_bestGiven 106 = .ok (.iadd, 1) := by decide +kernel
theorem dX11_bestGiven_107 : decode cX11_bestGiven 107 = .ok (.istore 8, 2) := by decide +kernel
theorem dX11_bestGiven_109 : decode cX11_bestGiven 109 = .ok (.iload 8, 2) := by decide +kernel
theorem dX11_bestGiven_111 : decode cX11_bestGiven 111 = .ok (.bipush 9, 2) := by decide +kernel
theorem dX11_bestGiven_113 : decode cX11_bestGiven 113 = .ok (.if_icmp .gt 71, 3) := by decide +kernel
theorem dX11_bestGiven_116 : decode cX11_bestGiven 116 = .ok (.iload 7, 2) := by decide +kernel
theorem dX11_bestGiven_118 : decode cX11_bestGiven 118 = .ok (.aload_n 0, 1) := by decide +kernel
theorem dX11_bestGiven_119 : decode cX11_bestGiven 119 = .ok (.getfield 72, 3) := by decide +kernel
theorem dX11_bestGiven_122 : decode cX11_bestGiven 122 = .ok (.aload 4, 2) := by decide +kernel
theorem dX11_bestGiven_124 : decode cX11_bestGiven 124 = .ok (.iload_n 2, 1) := by decide +kernel
theorem dX11_bestGiven_125 : decode cX11_bestGiven 125 = .ok (.iload 7, 2) := by decide +kernel
theorem dX11_bestGiven_127 : decode cX11_bestGiven 127 = .ok (.invokevirtual 241, 3) := by decide +kernel
theorem dX11_bestGiven_130 : decode cX11_bestGiven 130 = .ok (.iadd, 1) := by decide +kernel
theorem dX11_bestGiven_131 : decode cX11_bestGiven 131 = .ok (.istore 7, 2) := by decide +kernel
theorem dX11_bestGiven_133 : decode cX11_bestGiven 133 = .ok (.iload 8, 2) := by decide +kernel
theorem dX11_bestGiven_135 : decode cX11_bestGiven 135 = .ok (.bipush 9, 2) := by decide +kernel
theorem dX11_bestGiven_137 : decode cX11_bestGiven 137 = .ok (.if_icmp .ne 15, 3) := by decide +kernel
theorem dX11_bestGiven_140 : decode cX11_bestGiven 140 = .ok (.aload_n 0, 1) := by decide +kernel
theorem dX11_bestGiven_141 : decode cX11_bestGiven 141 = .ok (.getfield 72, 3) := by decide +kernel
theorem dX11_bestGiven_144 : decode cX11_bestGiven 144 = .ok (.aload 4, 2) := by decide +kernel
theorem dX11_bestGiven_146 : decode cX11_bestGiven 146 = .ok (.invokevirtual 245, 3) := by decide +kernel
theorem dX11_bestGiven_149 : decode cX11_bestGiven 149 = .ok (.goto 12, 3) := by decide +kernel
theorem dX11_bestGiven_152 : decode cX11_bestGiven 152 = .ok (.aload_n 0, 1) := by decide +kernel
theorem dX11_bestGiven_153 : decode cX11_bestGiven 153 = .ok (.getfield 72, 3) := by decide +kernel
theorem dX11_bestGiven_156 : decode cX11_bestGiven 156 = .ok (.aload 4, 2) := by decide +kernel
theorem dX11_bestGiven_158 : decode cX11_bestGiven 158 = .ok (.invokevirtual 175, 3) := by decide +kernel
theorem dX11_bestGiven_161 : decode cX11_bestGiven 161 = .ok (.istore 9, 2) := by decide +kernel
theorem dX11_bestGiven_163 : decode cX11_bestGiven 163 = .ok (.iload 9, 2) := by decide +kernel
theorem dX11_bestGiven_165 : decode cX11_bestGiven 165 = .ok (.iload 5, 2) := by decide +kernel
theorem dX11_bestGiven_167 : decode cX11_bestGiven 167 = .ok (.if_icmp .le 11, 3) := by decide +kernel
theorem dX11_bestGiven_170 : decode cX11_bestGiven 170 = .ok (.iload 9, 2) := by decide +kernel
theorem dX11_bestGiven_172 : decode cX11_bestGiven 172 = .ok (.istore 5, 2) := by decide +kernel
theorem dX11_bestGiven_174 : decode cX11_bestGiven 174 = .ok (.iload 8, 2) := by decide +kernel
theorem dX11_bestGiven_176 : decode cX11_bestGiven 176 = .ok (.istore 6, 2) := by decide +kernel
theorem dX11_bestGiven_178 : decode cX11_bestGiven 178 = .ok (.iinc 8 1, 3) := by decide +kernel
theorem dX11_bestGiven_181 : decode cX11_bestGiven 181 = .ok (.goto (-72), 3) := by decide +kernel
theorem dX11_bestGiven_184 : decode cX11_bestGiven 184 = .ok (.iload_n 3, 1) := by decide +kernel
theorem dX11_bestGiven_185 : decode cX11_bestGiven 185 = .ok (.ifCond .ne 8, 3) := by decide +kernel
theorem dX11_bestGiven_188 : decode cX11_bestGiven 188 = .ok (.iload 6, 2) := by decide +kernel
theorem dX11_bestGiven_190 : decode cX11_bestGiven 190 = .ok (.goto 5, 3) := by decide +kernel
theorem dX11_bestGiven_193 : decode cX11_bestGiven 193 = .ok (.iload 5, 2) := by decide +kernel
theorem dX11_bestGiven_195 : decode cX11_bestGiven 195 = .ok (.ireturn, 1) := by decide +kernel
theorem dX11_cellar_0 : decode cX11_cellar 0 = .ok (.aload_n 0, 1) := by decide +kernel
theorem dX11_cellar_1 : decode cX11_cellar 1 = .ok (.iload_n 1, 1) := by decide +kernel
theorem dX11_cellar_2 : decode cX11_cellar 2 = .ok (.invokevirtual 139, 3) := by decide +kernel
theorem dX11_cellar_5 : decode cX11_cellar 5 = .ok (.ifCond .eq 22, 3) := by decide +kernel
theorem dX11_cellar_8 : decode cX11_cellar 8 = .ok (.iload_n 2, 1) := by decide +kernel
theorem dX11_cellar_9 : decode cX11_cellar 9 = .ok (.iconst 0, 1) := by decide +kernel
theorem dX11_cellar_10 : decode cX11_cellar 10 = .ok (.bipush 60, 2) := by decide +kernel
theorem dX11_cellar_12 : decode cX11_cellar 12 = .ok (.invokestatic 82, 3) := by decide +kernel
theorem dX11_cellar_15 : decode cX11_cellar 15 = .ok (.ifCond .eq 12, 3) := by decide +kernel
theorem dX11_cellar_18 : decode cX11_cellar 18 = .ok (.iload_n 3, 1) := by decide +kernel
theorem dX11_cellar_19 : decode cX11_cellar 19 = .ok (.iconst 0, 1) := by decide +kernel
theorem dX11_cellar_20 : decode cX11_cellar 20 = .ok (.iconst 1, 1) := by decide +kernel
theorem dX11_cellar_21 : decode cX11_cellar 21 = .ok (.invokestatic 82, 3) := by decide +kernel
theorem dX11_cellar_24 : decode cX11_cellar 24 = .ok (.ifCond .ne 9, 3) := by decide +kernel
theorem dX11_cellar_27 : decode cX11_cellar 27 = .ok (.aload_n 0, 1) := by decide +kernel
theorem dX11_cellar_28 : decode cX11_cellar 28 = .ok (.iconst 1, 1) := by decide +kernel
theorem dX11_cellar_29 : decode cX11_cellar 29 = .ok (.invokevirtual 90, 3) := by decide +kernel
theorem dX11_cellar_32 : decode cX11_cellar 32 = .ok (.ireturn, 1) := by decide +kernel
theorem dX11_cellar_33 : decode cX11_cellar 33 = .ok (.aload_n 0, 1) := by decide +kernel
theorem dX11_cellar_34 : decode cX11_cellar 34 = .ok (.getfield 72, 3) := by decide +kernel
theorem dX11_cellar_37 : decode cX11_cellar 37 = .ok (.getfield 126, 3) := by decide +kernel
theorem dX11_cellar_40 : decode cX11_cellar 40 = .ok (.iload_n 1, 1) := by decide +kernel
theorem dX11_cellar_41 : decode cX11_cellar 41 = .ok (.aaload, 1) := by decide +kernel
theorem dX11_cellar_42 : decode cX11_cellar 42 = .ok (.astore 4, 2) := by decide +kernel
theorem dX11_cellar_44 : decode cX11_cellar 44 = .ok (.aload 4, 2) := by decide +kernel
theorem dX11_cellar_46 : decode cX11_cellar 46 = .ok (.invokevirtual 224, 3) := by decide +kernel
theorem dX11_cellar_49 : decode cX11_cellar 49 = .ok (.ifCond .ne 9, 3) := by decide +kernel
theorem dX11_cellar_52 : decode cX11_cellar 52 = .ok (.aload_n 0, 1) := by decide +kernel
theorem dX11_cellar_53 : decode cX11_cellar 53 = .ok (.iconst 3, 1) := by decide +kernel
theorem dX11_cellar_54 : decode cX11_cellar 54 = .ok (.invokevirtual 90, 3) := by decide +kernel
theorem dX11_cellar_57 : decode cX11_cellar 57 = .ok (.ireturn, 1) := by decide +kernel
theorem dX11_cellar_58 : decode cX11_cellar 58 = .ok (.aload_n 0, 1) := by decide +kernel
theorem dX11_cellar_59 : decode cX11_cellar 59 = .ok (.getfield 45, 3) := by decide +kernel
theorem dX11_cellar_62 : decode cX11_cellar 62 = .ok (.aload_n 0, 1) := by decide +kernel
theorem dX11_cellar_63 : decode cX11_cellar 63 = .ok (.getfield 72, 3) := by decide +kernel
theorem dX11_cellar_66 : decode cX11_cellar 66 = .ok (.aload 4, 2) := by decide +kernel
theorem dX11_cellar_68 : decode cX11_cellar 68 = .ok (.iload_n 2, 1) := by decide +kernel
theorem dX11_cellar_69 : decode cX11_cellar 69 = .ok (.invokevirtual 227, 3) := by decide +kernel
theorem dX11_cellar_72 : decode cX11_cellar 72 = .ok (.iconst (-1), 1) := by decide +kernel
theorem dX11_cellar_73 : decode cX11_cellar 73 = .ok (.istore 5, 2) := by decide +kernel
theorem dX11_cellar_75 : decode cX11_cellar 75 = .ok (.iconst (-1), 1) := by decide +kernel
theorem dX11_cellar_76 : decode cX11_cellar 76 = .ok (.istore 6, 2) := by decide +kernel
theorem dX11_cellar_78 : decode cX11_cellar 78 = .ok (.iconst 0, 1) := by decide +kernel
theorem dX11_cellar_79 : decode cX11_cellar 79 = .ok (.istore 7, 2) := by decide +kernel
theorem dX11_cellar_81 : decode cX11_cellar 81 = .ok (.iload 7, 2) := by decide +kernel
theorem dX11_cellar_83 : decode cX11_cellar 83 = .ok (.bipush 9, 2) := by decide +kernel
theorem dX11_cellar_85 : decode cX11_cellar 85 = .ok (.if_icmp .ge 71, 3) := by decide +kernel
theorem dX11_cellar_88 : decode cX11_cellar 88 = .ok (.iload 7, 2) := by decide +kernel
theorem dX11_cellar_90 : decode cX11_cellar 90 = .ok (.aload 4, 2) := by decide +kernel
theorem dX11_cellar_92 : decode cX11_cellar 92 = .ok (.getfield 169, 3) := by decide +kernel
theorem dX11_cellar_95 : decode cX11_cellar 95 = .ok (.if_icmp .ge 13, 3) := by decide +kernel
theorem dX11_cellar_98 : decode cX11_cellar 98 = .ok (.aload_n 0, 1) := by decide +kernel
theorem dX11_cellar_99 : decode cX11_cellar 99 = .ok (.getfield 45, 3) := by decide +kernel
theorem dX11_cellar_102 : decode cX11_cellar 102 = .ok (.invokevirtual 231, 3) := by decide +kernel
theorem dX11_cellar_105 : decode cX11_cellar 105 = .ok (.goto 18, 3) := by decide +kernel
theorem dX11_cellar_108 : decode cX11_cellar 108 = .ok (.aload_n 0, 1) := by decide +kernel
theorem dX11_cellar_109 : decode cX11_cellar 109 = .ok (.getfield 45, 3) := by decide +kernel
theorem dX11_cellar_112 : decode cX11_cellar 112 = .ok (.aload_n 0, 1) := by decide +kernel
theorem dX11_cellar_113 : decode cX11_cellar 113 = .ok (.getfield 72, 3) := by decide +kernel
theorem dX11_cellar_116 : decode cX11_cellar 116 = .ok (.aload 4, 2) := by decide +kernel
theorem dX11_cellar_118 : decode cX11_cellar 118 = .ok (.iload 7, 2) := by decide +kernel
theorem dX11_cellar_120 : decode cX11_cellar 120 = .ok (.invokevirtual 248, 3) := by decide +kernel
theorem dX11_cellar_123 : decode cX11_cellar 123 = .ok (.istore 8, 2) := by decide +kernel
theorem dX11_cellar_125 : decode cX11_cellar 125 = .ok (.iload 8, 2) := by decide +kernel
theorem dX11_cellar_127 : decode cX11_cellar 127 = .ok (.ifCond .lt 23, 3) := by decide +kernel
theorem dX11_cellar_130 : decode cX11_cellar 130 = .ok (.iload 6, 2) := by decide +kernel
theorem dX11_cellar_132 : decode cX11_cellar 132 = .ok (.ifCond .lt 10, 3) := by decide +kernel
theorem dX11_cellar_135 : decode cX11_cellar 135 = .ok (.iload 8, 2) := by decide +kernel
theorem dX11_cellar_137 : decode cX11_cellar 137 = .ok (.iload 5, 2) := by decide +kernel
theorem dX11_cellar_139 : decode cX11_cellar 139 = .ok (.if_icmp .ge 11, 3) := by decide +kernel
theorem dX11_cellar_142 : decode cX11_cellar 142 = .ok (.iload 8, 2) := by decide +kernel
theorem dX11_cellar_144 : decode cX11_cellar 144 = .ok (.istore 5, 2) := by decide +kernel
theorem dX11_cellar_146 : decode cX11_cellar 146 = .ok (.iload 7, 2) := by decide +kernel
theorem dX11_cellar_148 : decode cX11_cellar 148 = .ok (.istore 6, 2) := by decide +kernel
theorem dX11_cellar_150 : decode cX11_cellar 150 = .ok (.iinc 7 1, 3) := by decide +kernel
theorem dX11_cellar_153 : decode cX11_cellar 153 = .ok (.goto (-72), 3) := by decide +kernel
theorem dX11_cellar_156 : decode cX11_cellar 156 = .ok (.iload 6, 2) := by decide +kernel
theorem dX11_cellar_158 : decode cX11_cellar 158 = .ok (.ifCond .ge 9, 3) := by decide +kernel
theorem dX11_cellar_161 : decode cX11_cellar 161 = .ok (.aload_n 0, 1) := by decide +kernel
theorem dX11_cellar_162 : decode cX11_cellar 162 = .ok (.iconst 2, 1) := by decide +kernel
theorem dX11_cellar_163 : decode cX11_cellar 163 = .ok (.invokevirtual 90, 3) := by decide +kernel
theorem dX11_cellar_166 : decode cX11_cellar 166 = .ok (.ireturn, 1) := by decide +kernel
theorem dX11_cellar_167 : decode cX11_cellar 167 = .ok (.iload_n 3, 1) := by decide +kernel
theorem dX11_cellar_168 : decode cX11_cellar 168 = .ok (.ifCond .ne 8, 3) := by decide +kernel
theorem dX11_cellar_171 : decode cX11_cellar 171 = .ok (.iload 6, 2) := by decide +kernel
theorem dX11_cellar_173 : decode cX11_cellar 173 = .ok (.goto 5, 3) := by decide +kernel
theorem dX11_cellar_176 : decode cX11_cellar 176 = .ok (.iload 5, 2) := by decide +kernel
theorem dX11_cellar_178 : decode cX11_cellar 178 = .ok (.ireturn, 1) := by decide +kernel
theorem dX11_odds_0 : decode cX11_odds 0 = .ok (.iload_n 1, 1) := by decide +kernel
theorem dX11_odds_1 : decode cX11_odds 1 = .ok (.iconst 0, 1) := by decide +kernel
theorem dX11_odds_2 : decode cX11_odds 2 = .ok (.bipush 16, 2) := by decide +kernel
theorem dX11_odds_4 : decode cX11_odds 4 = .ok (.invokestatic 82, 3) := by decide +kernel
theorem dX11_odds_7 : decode cX11_odds 7 = .ok (.ifCond .eq 22, 3) := by decide +kernel
theorem dX11_odds_10 : decode cX11_odds 10 = .ok (.iload_n 2, 1) := by decide +kernel
theorem dX11_odds_11 : decode cX11_odds 11 = .ok (.iconst 0, 1) := by decide +kernel
theorem dX11_odds_12 : decode cX11_odds 12 = .ok (.bipush 12, 2) := by decide +kernel
theorem dX11_odds_14 : decode cX11_odds 14 = .ok (.invokestatic 82, 3) := by decide +kernel
theorem dX11_odds_17 : decode cX11_odds 17 = .ok (.ifCond .eq 12, 3) := by decide +kernel
theorem dX11_odds_20 : decode cX11_odds 20 = .ok (.iload_n 3, 1) := by decide +kernel
theorem dX11_odds_21 : decode cX11_odds 21 = .ok (.iconst 0, 1) := by decide +kernel
theorem dX11_odds_22 : decode cX11_odds 22 = .ok (.iconst 1, 1) := by decide +kernel
theorem dX11_odds_23 : decode cX11_odds 23 = .ok (.invokestatic 82, 3) := by decide +kernel
theorem dX11_odds_26 : decode cX11_odds 26 = .ok (.ifCond .ne 10, 3) := by decide +kernel
theorem dX11_odds_29 : decode cX11_odds 29 = .ok (.aload_n 0, 1) := by decide +kernel
theorem dX11_odds_30 : decode cX11_odds 30 = .ok (.iconst 1, 1) := by decide +kernel
theorem dX11_odds_31 : decode cX11_odds 31 = .ok (.invokevirtual 90, 3) := by decide +kernel
theorem dX11_odds_34 : decode cX11_odds 34 = .ok (.i2l, 1) := by decide +kernel
theorem dX11_odds_35 : decode cX11_odds 35 = .ok (.lreturn, 1) := by decide +kernel
theorem dX11_odds_36 : decode cX11_odds 36 = .ok (.lconst 1, 1) := by decide +kernel
theorem dX11_odds_37 : decode cX11_odds 37 = .ok (.lstore 4, 2) := by decide +kernel
theorem dX11_odds_39 : decode cX11_odds 39 = .ok (.lconst 1, 1) := by decide +kernel
theorem dX11_odds_40 : decode cX11_odds 40 = .ok (.lstore 6, 2) := by decide +kernel
theorem dX11_odds_42 : decode cX11_odds 42 = .ok (.iconst 0, 1) := by decide +kernel
theorem dX11_odds_43 : decode cX11_odds 43 = .ok (.istore 8, 2) := by decide +kernel
theorem dX11_odds_45 : decode cX11_odds 45 = .ok (.iload 8, 2) := by decide +kernel
theorem dX11_odds_47 : decode cX11_odds 47 = .ok (.iload_n 2, 1) := by decide +kernel
theorem dX11_odds_48 : decode cX11_odds 48 = .ok (.if_icmp .ge 27, 3) := by decide +kernel
theorem dX11_odds_51 : decode cX11_odds 51 = .ok (.lload 4, 2) := by decide +kernel
theorem dX11_odds_53 : decode cX11_odds 53 = .ok (.bipush 16, 2) := by decide +kernel
theorem dX11_odds_55 : decode cX11_odds 55 = .ok (.iload_n 1, 1) := by decide +kernel
theorem dX11_odds_56 : decode cX11_odds 56 = .ok (.isub, 1) := by decide +kernel
theorem dX11_odds_57 : decode cX11_odds 57 = .ok (.i2l, 1) := by decide +kernel
theorem dX11_odds_58 : decode cX11_odds 58 = .ok (.lmul, 1) := by decide +kernel
theorem dX11_odds_59 : decode cX11_odds 59 = .ok (.lstore 4, 2) := by decide +kernel
theorem dX11_odds_61 : decode cX11_odds 61 = .ok (.lload 6, 2) := by decide +kernel
theorem dX11_odds_63 : decode cX11_odds 63 = .ok (.ldc2_w 252, 3) := by decide +kernel
theorem dX11_odds_66 : decode cX11_odds 66 = .ok (.lmul, 1) := by decide +kernel
theorem dX11_odds_67 : decode cX11_odds 67 = .ok (.lstore 6, 2) := by decide +kernel
theorem dX11_odds_69 : decode cX11_odds 69 = .ok (.iinc 8 1, 3) := by decide +kernel
theorem dX11_odds_72 : decode cX11_odds 72 = .ok (.goto (-27), 3) := by decide +kernel
theorem dX11_odds_75 : decode cX11_odds 75 = .ok (.iconst 0, 1) := by decide +kernel
theorem dX11_odds_76 : decode cX11_odds 76 = .ok (.istore 8, 2) := by decide +kernel
theorem dX11_odds_78 : decode cX11_odds 78 = .ok (.iload 8, 2) := by decide +kernel
theorem dX11_odds_80 : decode cX11_odds 80 = .ok (.iconst 4, 1) := by decide +kernel
theorem dX11_odds_81 : decode cX11_odds 81 = .ok (.iload_n 2, 1) := by decide +kernel
theorem dX11_odds_82 : decode cX11_odds 82 = .ok (.imul, 1) := by decide +kernel
theorem dX11_odds_83 : decode cX11_odds 83 = .ok (.if_icmp .ge 47, 3) := by decide +kernel
theorem dX11_odds_86 : decode cX11_odds 86 = .ok (.lload 4, 2) := by decide +kernel
theorem dX11_odds_88 : decode cX11_odds 88 = .ok (.ldc2_w 254, 3) := by decide +kernel
theorem dX11_odds_91 : decode cX11_odds 91 = .ok (.lrem, 1) := by decide +kernel
theorem dX11_odds_92 : decode cX11_odds 92 = .ok (.lconst 0, 1) := by decide +kernel
theorem dX11_odds_93 : decode cX11_odds 93 = .ok (.lcmp, 1) := by decide +kernel
theorem dX11_odds_94 : decode cX11_odds 94 = .ok (.ifCond .ne 36, 3) := by decide +kernel
theorem dX11_odds_97 : decode cX11_odds 97 = .ok (.lload 6, 2) := by decide +kernel
theorem dX11_odds_99 : decode cX11_odds 99 = .ok (.ldc2_w 254, 3) := by decide +kernel
theorem dX11_odds_102 : decode cX11_odds 102 = .ok (.lrem, 1) := by decide +kernel
theorem dX11_odds_103 : decode cX11_odds 103 = .ok (.lconst 0, 1) := by decide +kernel
theorem dX11_odds_104 : decode cX11_odds 104 = .ok (.lcmp, 1) := by decide +kernel
theorem dX11_odds_105 : decode cX11_odds 105 = .ok (.ifCond .ne 25, 3) := by decide +kernel
theorem dX11_odds_108 : decode cX11_odds 108 = .ok (.lload 4, 2) := by decide +kernel
theorem dX11_odds_110 : decode cX11_odds 110 = .ok (.ldc2_w 254, 3) := by decide +kernel
theorem dX11_odds_113 : decode cX11_odds 113 = .ok (.ldiv, 1) := by decide +kernel
theorem dX11_odds_114 : decode cX11_odds 114 = .ok (.lstore 4, 2) := by decide +kernel
theorem dX11_odds_116 : decode cX11_odds 116 = .ok (.lload 6, 2) := by decide +kernel
theorem dX11_odds_118 : decode cX11_odds 118 = .ok (.ldc2_w 254, 3) := by decide +kernel
theorem dX11_odds_121 : decode cX11_odds 121 = .ok (.ldiv, 1) := by decide +kernel
theorem dX11_odds_122 : decode cX11_odds 122 = .ok (.lstore 6, 2) := by decide +kernel
theorem dX11_odds_124 : decode cX11_odds 124 = .ok (.iinc 8 1, 3) := by decide +kernel
theorem dX11_odds_127 : decode cX11_odds 127 = .ok (.goto (-49), 3) := by decide +kernel
theorem dX11_odds_130 : decode cX11_odds 130 = .ok (.iload_n 3, 1) := by decide +kernel
theorem dX11_odds_131 : decode cX11_odds 131 = .ok (.ifCond .ne 8, 3) := by decide +kernel
theorem dX11_odds_134 : decode cX11_odds 134 = .ok (.lload 4, 2) := by decide +kernel
theorem dX11_odds_136 : decode cX11_odds 136 = .ok (.goto 5, 3) := by decide +kernel
theorem dX11_odds_139 : decode cX11_odds 139 = .ok (.lload 6, 2) := by decide +kernel
theorem dX11_odds_141 : decode cX11_odds 141 = .ok (.lreturn, 1) := by decide +kernel
theorem dX11_byWhom_0 : decode cX11_byWhom 0 = .ok (.aload_n 0, 1) := by decide +kernel
theorem dX11_byWhom_1 : decode cX11_byWhom 1 = .ok (.iload_n 1, 1) := by decide +kernel
theorem dX11_byWhom_2 : decode cX11_byWhom 2 = .ok (.invokevirtual 139, 3) := by decide +kernel
theorem dX11_byWhom_5 : decode cX11_byWhom 5 = .ok (.ifCond .eq 14, 3) := by decide +kernel
theorem dX11_byWhom_8 : decode cX11_byWhom 8 = .ok (.iload_n 2, 1) := by decide +kernel
theorem dX11_byWhom_9 : decode cX11_byWhom 9 = .ok (.iconst 0, 1) := by decide +kernel
theorem dX11_byWhom_10 : decode cX11_byWhom 10 = .ok (.sipush 9999, 3) := by decide +kernel
theorem dX11_byWhom_13 : decode cX11_byWhom 13 = .ok (.invokestatic 82, 3) := by decide +kernel
theorem dX11_byWhom_16 : decode cX11_byWhom 16 = .ok (.ifCond .ne 9, 3) := by decide +kernel
theorem dX11_byWhom_19 : decode cX11_byWhom 19 = .ok (.aload_n 0, 1) := by decide +kernel
theorem dX11_byWhom_20 : decode cX11_byWhom 20 = .ok (.iconst 1, 1) := by decide +kernel
theorem dX11_byWhom_21 : decode cX11_byWhom 21 = .ok (.invokevirtual 90, 3) := by decide +kernel
theorem dX11_byWhom_24 : decode cX11_byWhom 24 = .ok (.ireturn, 1) := by decide +kernel
theorem dX11_byWhom_25 : decode cX11_byWhom 25 = .ok (.aload_n 0, 1) := by decide +kernel
theorem dX11_byWhom_26 : decode cX11_byWhom 26 = .ok (.getfield 38, 3) := by decide +kernel
theorem dX11_byWhom_29 : decode cX11_byWhom 29 = .ok (.iconst 0, 1) := by decide +kernel
theorem dX11_byWhom_30 : decode cX11_byWhom 30 = .ok (.aaload, 1) := by decide +kernel
theorem dX11_byWhom_31 : decode cX11_byWhom 31 = .ok (.astore 4, 2) := by decide +kernel
theorem dX11_byWhom_33 : decode cX11_byWhom 33 = .ok (.aload 4, 2) := by decide +kernel
theorem dX11_byWhom_35 : decode cX11_byWhom 35 = .ok (.aload_n 0, 1) := by decide +kernel
theorem dX11_byWhom_36 : decode cX11_byWhom 36 = .ok (.getfield 72, 3) := by decide +kernel
theorem dX11_byWhom_39 : decode cX11_byWhom 39 = .ok (.getfield 126, 3) := by decide +kernel
theorem dX11_byWhom_42 : decode cX11_byWhom 42 = .ok (.iload_n 1, 1) := by decide +kernel
theorem dX11_byWhom_43 : decode cX11_byWhom 43 = .ok (.aaload, 1) := by decide +kernel
theorem dX11_byWhom_44 : decode cX11_byWhom 44 = .ok (.invokevirtual 216, 3) := by decide +kernel
theorem dX11_byWhom_47 : decode cX11_byWhom 47 = .ok (.iconst 0, 1) := by decide +kernel
theorem dX11_byWhom_48 : decode cX11_byWhom 48 = .ok (.istore 5, 2) := by decide +kernel
theorem dX11_byWhom_50 : decode cX11_byWhom 50 = .ok (.iconst 0, 1) := by decide +kernel
theorem dX11_byWhom_51 : decode cX11_byWhom 51 = .ok (.istore 6, 2) := by decide +kernel
theorem dX11_byWhom_53 : decode cX11_byWhom 53 = .ok (.iload 6, 2) := by decide +kernel
theorem dX11_byWhom_55 : decode cX11_byWhom 55 = .ok (.iconst 4, 1) := by decide +kernel
theorem dX11_byWhom_56 : decode cX11_byWhom 56 = .ok (.if_icmp .ge 69, 3) := by decide +kernel
theorem dX11_byWhom_59 : decode cX11_byWhom 59 = .ok (.aload 4, 2) := by decide +kernel
theorem dX11_byWhom_61 : decode cX11_byWhom 61 = .ok (.invokevirtual 136, 3) := by decide +kernel
theorem dX11_byWhom_64 : decode cX11_byWhom 64 = .ok (.iload_n 2, 1) := by decide +kernel
theorem dX11_byWhom_65 : decode cX11_byWhom 65 = .ok (.istore 7, 2) := by decide +kernel
theorem dX11_byWhom_67 : decode cX11_byWhom 67 = .ok (.iconst 0, 1) := by decide +kernel
theorem dX11_byWhom_68 : decode cX11_byWhom 68 = .ok (.istore 8, 2) := by decide +kernel
theorem dX11_byWhom_70 : decode cX11_byWhom 70 = .ok (.iload 8, 2) := by decide +kernel
theorem dX11_byWhom_72 : decode cX11_byWhom 72 = .ok (.bipush 9, 2) := by decide +kernel
theorem dX11_byWhom_74 : decode cX11_byWhom 74 = .ok (.if_icmp .ge 27, 3) := by decide +kernel
theorem dX11_byWhom_77 : decode cX11_byWhom 77 = .ok (.iload 7, 2) := by decide +kernel
theorem dX11_byWhom_79 : decode cX11_byWhom 79 = .ok (.aload_n 0, 1) := by decide +kernel
theorem dX11_byWhom_80 : decode cX11_byWhom 80 = .ok (.getfield 72, 3) := by decide +kernel
theorem dX11_byWhom_83 : decode cX11_byWhom 83 = .ok (.aload 4, 2) := by decide +kernel
theorem dX11_byWhom_85 : decode cX11_byWhom 85 = .ok (.iload 6, 2) := by decide +kernel
theorem dX11_byWhom_87 : decode cX11_byWhom 87 = .ok (.iload 7, 2) := by decide +kernel
theorem dX11_byWhom_89 : decode cX11_byWhom 89 = .ok (.invokevirtual 241, 3) := by decide +kernel
theorem dX11_byWhom_92 : decode cX11_byWhom 92 = .ok (.iadd, 1) := by decide +kernel
theorem dX11_byWhom_93 : decode cX11_byWhom 93 = .ok (.istore 7, 2) := by decide +kernel
theorem dX11_byWhom_95 : decode cX11_byWhom 95 = .ok (.iinc 8 1, 3) := by decide +kernel
theorem dX11_byWhom_98 : decode cX11_byWhom 98 = .ok (.goto (-28), 3) := by decide +kernel
theorem dX11_byWhom_101 : decode cX11_byWhom 101 = .ok (.aload 4, 2) := by decide +kernel
theorem dX11_byWhom_103 : decode cX11_byWhom 103 = .ok (.getfield 256, 3) := by decide +kernel
theorem dX11_byWhom_106 : decode cX11_byWhom 106 = .ok (.iload_n 3, 1) := by decide +kernel
theorem dX11_byWhom_107 : decode cX11_byWhom 107 = .ok (.if_icmp .ne 12, 3) := by decide +kernel
theorem dX11_byWhom_110 : decode cX11_byWhom 110 = .ok (.iload 5, 2) := by decide +kernel
theorem dX11_byWhom_112 : decode cX11_byWhom 112 = .ok (.iconst 1, 1) := by decide +kernel
theorem dX11_byWhom_113 : decode cX11_byWhom 113 = .ok (.iload 6, 2) := by decide +kernel
theorem dX11_byWhom_115 : decode cX11_byWhom 115 = .ok (.ishl, 1) := by decide +kernel
theorem dX11_byWhom_116 : decode cX11_byWhom 116 = .ok (.ior, 1) := by decide +kernel
theorem dX11_byWhom_117 : decode cX11_byWhom 117 = .ok (.istore 5, 2) := by decide +kernel
theorem dX11_byWhom_119 : decode cX11_byWhom 119 = .ok (.iinc 6 1, 3) := by decide +kernel
theorem dX11_byWhom_122 : decode cX11_byWhom 122 = .ok (.goto (-69), 3) := by decide +kernel
theorem dX11_byWhom_125 : decode cX11_byWhom 125 = .ok (.iload 5, 2) := by decide +kernel
theorem dX11_byWhom_127 : decode cX11_byWhom 127 = .ok (.ireturn, 1) := by decide +kernel
theorem dX11_seed_0 : decode cX11_seed 0 = .ok (.aload_n 0, 1) := by decide +kernel
theorem dX11_seed_1 : decode cX11_seed 1 = .ok (.getfield 72, 3) := by decide +kernel
theorem dX11_seed_4 : decode cX11_seed 4 = .ok (.getfield 259, 3) := by decide +kernel
theorem dX11_seed_7 : decode cX11_seed 7 = .ok (.istore_n 2, 1) := by decide +kernel
theorem dX11_seed_8 : decode cX11_seed 8 = .ok (.aload_n 0, 1) := by decide +kernel
theorem dX11_seed_9 : decode cX11_seed 9 = .ok (.getfield 72, 3) := by decide +kernel
theorem dX11_seed_12 : decode cX11_seed 12 = .ok (.iload_n 1, 1) := by decide +kernel
theorem dX11_seed_13 : decode cX11_seed 13 = .ok (.putfield 259, 3) := by decide +kernel
theorem dX11_seed_16 : decode cX11_seed 16 = .ok (.iload_n 2, 1) := by decide +kernel
theorem dX11_seed_17 : decode cX11_seed 17 = .ok (.ireturn, 1) := by decide +kernel
theorem dX11_voice_0 : decode cX11_voice 0 = .ok (.aload_n 0, 1) := by decide +kernel
theorem dX11_voice_1 : decode cX11_voice 1 = .ok (.iload_n 1, 1) := by decide +kernel
theorem dX11_voice_2 : decode cX11_voice 2 = .ok (.invokevirtual 139, 3) := by decide +kernel
theorem dX11_voice_5 : decode cX11_voice 5 = .ok (.ifCond .eq 12, 3) := by decide +kernel
theorem dX11_voice_8 : decode cX11_voice 8 = .ok (.iload_n 2, 1) := by decide +kernel
theorem dX11_voice_9 : decode cX11_voice 9 = .ok (.iconst 0, 1) := by decide +kernel
theorem dX11_voice_10 : decode cX11_voice 10 = .ok (.iconst 3, 1) := by decide +kernel
theorem dX11_voice_11 : decode cX11_voice 11 = .ok (.invokestatic 82, 3) := by decide +kernel
theorem dX11_voice_14 : decode cX11_voice 14 = .ok (.ifCond .ne 9, 3) := by decide +kernel
theorem dX11_voice_17 : decode cX11_voice 17 = .ok (.aload_n 0, 1) := by decide +kernel
theorem dX11_voice_18 : decode cX11_voice 18 = .ok (.iconst 1, 1) := by decide +kernel
theorem dX11_voice_19 : decode cX11_voice 19 = .ok (.invokevirtual 90, 3) := by decide +kernel
theorem dX11_voice_22 : decode cX11_voice 22 = .ok (.ireturn, 1) := by decide +kernel
theorem dX11_voice_23 : decode cX11_voice 23 = .ok (.aload_n 0, 1) := by decide +kernel
theorem dX11_voice_24 : decode cX11_voice 24 = .ok (.getfield 72, 3) := by decide +kernel
theorem dX11_voice_27 : decode cX11_voice 27 = .ok (.getfield 126, 3) := by decide +kernel
theorem dX11_voice_30 : decode cX11_voice 30 = .ok (.iload_n 1, 1) := by decide +kernel
theorem dX11_voice_31 : decode cX11_voice 31 = .ok (.aaload, 1) := by decide +kernel
theorem dX11_voice_32 : decode cX11_voice 32 = .ok (.astore 4, 2) := by decide +kernel
theorem dX11_voice_34 : decode cX11_voice 34 = .ok (.aload_n 0, 1) := by decide +kernel
theorem dX11_voice_35 : decode cX11_voice 35 = .ok (.getfield 49, 3) := by decide +kernel
theorem dX11_voice_38 : decode cX11_voice 38 = .ok (.iconst 0, 1) := by decide +kernel
theorem dX11_voice_39 : decode cX11_voice 39 = .ok (.iconst 0, 1) := by decide +kernel
theorem dX11_voice_40 : decode cX11_voice 40 = .ok (.iastore, 1) := by decide +kernel
theorem dX11_voice_41 : decode cX11_voice 41 = .ok (.iload_n 2, 1) := by decide +kernel
theorem dX11_voice_42 : decode cX11_voice 42 = .ok (.tableswitch 74 0 2 #[26, 42, 58], 26) := by decide +kernel
theorem dX11_voice_68 : decode cX11_voice 68 = .ok (.aload 4, 2) := by decide +kernel
theorem dX11_voice_70 : decode cX11_voice 70 = .ok (.getfield 129, 3) := by decide +kernel
theorem dX11_voice_73 : decode cX11_voice 73 = .ok (.aload 4, 2) := by decide +kernel
theorem dX11_voice_75 : decode cX11_voice 75 = .ok (.aload_n 0, 1) := by decide +kernel
theorem dX11_voice_76 : decode cX11_voice 76 = .ok (.getfield 49, 3) := by decide +kernel
theorem dX11_voice_79 : decode cX11_voice 79 = .ok (.iload_n 3, 1) := by decide +kernel
theorem dX11_voice_80 : decode cX11_voice 80 = .ok (.invokevirtual 262, 3) := by decide +kernel
theorem dX11_voice_83 : decode cX11_voice 83 = .ok (.ireturn, 1) := by decide +kernel
theorem dX11_voice_84 : decode cX11_voice 84 = .ok (.aload 4, 2) := by decide +kernel
theorem dX11_voice_86 : decode cX11_voice 86 = .ok (.getfield 129, 3) := by decide +kernel
theorem dX11_voice_89 : decode cX11_voice 89 = .ok (.aload 4, 2) := by decide +kernel
theorem dX11_voice_91 : decode cX11_voice 91 = .ok (.aload_n 0, 1) := by decide +kernel
theorem dX11_voice_92 : decode cX11_voice 92 = .ok (.getfield 49, 3) := by decide +kernel
theorem dX11_voice_95 : decode cX11_voice 95 = .ok (.iload_n 3, 1) := by decide +kernel
theorem dX11_voice_96 : decode cX11_voice 96 = .ok (.invokevirtual 266, 3) := by decide +kernel
theorem dX11_voice_99 : decode cX11_voice 99 = .ok (.ireturn, 1) := by decide +kernel
theorem dX11_voice_100 : decode cX11_voice 100 = .ok (.aload 4, 2) := by decide +kernel
theorem dX11_voice_102 : decode cX11_voice 102 = .ok (.getfield 129, 3) := by decide +kernel
theorem dX11_voice_105 : decode cX11_voice 105 = .ok (.aload 4, 2) := by decide +kernel
theorem dX11_voice_107 : decode cX11_voice 107 = .ok (.aload_n 0, 1) := by decide +kernel
theorem dX11_voice_108 : decode cX11_voice 108 = .ok (.getfield 49, 3) := by decide +kernel
theorem dX11_voice_111 : decode cX11_voice 111 = .ok (.iload_n 3, 1) := by decide +kernel
theorem dX11_voice_112 : decode cX11_voice 112 = .ok (.invokevirtual 268, 3) := by decide +kernel
theorem dX11_voice_115 : decode cX11_voice 115 = .ok (.ireturn, 1) := by decide +kernel
theorem dX11_voice_116 : decode cX11_voice 116 = .ok (.aload 4, 2) := by decide +kernel
theorem dX11_voice_118 : decode cX11_voice 118 = .ok (.getfield 129, 3) := by decide +kernel
theorem dX11_voice_121 : decode cX11_voice 121 = .ok (.aload 4, 2) := by decide +kernel
theorem dX11_voice_123 : decode cX11_voice 123 = .ok (.aload_n 0, 1) := by decide +kernel
theorem dX11_voice_124 : decode cX11_voice 124 = .ok (.getfield 49, 3) := by decide +kernel
theorem dX11_voice_127 : decode cX11_voice 127 = .ok (.iload_n 3, 1) := by decide +kernel
theorem dX11_voice_128 : decode cX11_voice 128 = .ok (.invokevirtual 271, 3) := by decide +kernel
theorem dX11_voice_131 : decode cX11_voice 131 = .ok (.ireturn, 1) := by decide +kernel
theorem dX11_trace_0 : decode cX11_trace 0 = .ok (.iload_n 1, 1) := by decide +kernel
theorem dX11_trace_1 : decode cX11_trace 1 = .ok (.iconst 0, 1) := by decide +kernel
theorem dX11_trace_2 : decode cX11_trace 2 = .ok (.aload_n 0, 1) := by decide +kernel
theorem dX11_trace_3 : decode cX11_trace 3 = .ok (.getfield 49, 3) := by decide +kernel
theorem dX11_trace_6 : decode cX11_trace 6 = .ok (.iconst 0, 1) := by decide +kernel
theorem dX11_trace_7 : decode cX11_trace 7 = .ok (.iaload, 1) := by decide +kernel
theorem dX11_trace_8 : decode cX11_trace 8 = .ok (.iconst 1, 1) := by decide +kernel
theorem dX11_trace_9 : decode cX11_trace 9 = .ok (.isub, 1) := by decide +kernel
theorem dX11_trace_10 : decode cX11_trace 10 = .ok (.invokestatic 82, 3) := by decide +kernel
theorem dX11_trace_13 : decode cX11_trace 13 = .ok (.ifCond .eq 9, 3) := by decide +kernel
theorem dX11_trace_16 : decode cX11_trace 16 = .ok (.iload_n 1, 1) := by decide +kernel
theorem dX11_trace_17 : decode cX11_trace 17 = .ok (.bipush 40, 2) := by decide +kernel
theorem dX11_trace_19 : decode cX11_trace 19 = .ok (.if_icmp .lt 9, 3) := by decide +kernel
theorem dX11_trace_22 : decode cX11_trace 22 = .ok (.aload_n 0, 1) := by decide +kernel
theorem dX11_trace_23 : decode cX11_trace 23 = .ok (.iconst 2, 1) := by decide +kernel
theorem dX11_trace_24 : decode cX11_trace 24 = .ok (.invokevirtual 90, 3) := by decide +kernel
theorem dX11_trace_27 : decode cX11_trace 27 = .ok (.ireturn, 1) := by decide +kernel
theorem dX11_trace_28 : decode cX11_trace 28 = .ok (.aload_n 0, 1) := by decide +kernel
theorem dX11_trace_29 : decode cX11_trace 29 = .ok (.getfield 49, 3) := by decide +kernel
theorem dX11_trace_32 : decode cX11_trace 32 = .ok (.iconst 1, 1) := by decide +kernel
theorem dX11_trace_33 : decode cX11_trace 33 = .ok (.iload_n 1, 1) := by decide +kernel
theorem dX11_trace_34 : decode cX11_trace 34 = .ok (.iadd, 1) := by decide +kernel
theorem dX11_trace_35 : decode cX11_trace 35 = .ok (.iaload, 1) := by decide +kernel
theorem dX11_trace_36 : decode cX11_trace 36 = .ok (.ireturn, 1) := by decide +kernel
theorem dX11_sheet_0 : decode cX11_sheet 0 = .ok (.iload_n 1, 1) := by decide +kernel
theorem dX11_sheet_1 : decode cX11_sheet 1 = .ok (.invokestatic 274, 3) := by decide +kernel
theorem dX11_sheet_4 : decode cX11_sheet 4 = .ok (.ifCond .eq 25, 3) := by decide +kernel
theorem dX11_sheet_7 : decode cX11_sheet 7 = .ok (.iload_n 2, 1) := by decide +kernel
theorem dX11_sheet_8 : decode cX11_sheet 8 = .ok (.ifCond .eq 27, 3) := by decide +kernel
theorem dX11_sheet_11 : decode cX11_sheet 11 = .ok (.iload_n 2, 1) := by decide +kernel
theorem dX11_sheet_12 : decode cX11_sheet 12 = .ok (.bipush 8, 2) := by decide +kernel
theorem dX11_sheet_14 : decode cX11_sheet 14 = .ok (.if_icmp .eq 21, 3) := by decide +kernel
theorem dX11_sheet_17 : decode cX11_sheet 17 = .ok (.iload_n 2, 1) := by decide +kernel
theorem dX11_sheet_18 : decode cX11_sheet 18 = .ok (.bipush 16, 2) := by decide +kernel
theorem dX11_sheet_20 : decode cX11_sheet 20 = .ok (.if_icmp .eq 15, 3) := by decide +kernel
theorem dX11_sheet_23 : decode cX11_sheet 23 = .ok (.iload_n 2, 1) := by decide +kernel
theorem dX11_sheet_24 : decode cX11_sheet 24 = .ok (.bipush 32, 2) := by decide +kernel
theorem dX11_sheet_26 : decode cX11_sheet 26 = .ok (.if_icmp .eq 9, 3) := by decide +kernel
theorem dX11_sheet_29 : decode cX11_sheet 29 = .ok (.aload_n 0, 1) := by decide +kernel
theorem dX11_sheet_30 : decode cX11_sheet 30 = .ok (.iconst 1, 1) := by decide +kernel
theorem dX11_sheet_31 : decode cX11_sheet 31 = .ok (.invokevirtual 90, 3) := by decide +kernel
theorem dX11_sheet_34 : decode cX11_sheet 34 = .ok (.ireturn, 1) := by decide +kernel
theorem dX11_sheet_35 : decode cX11_sheet 35 = .ok (.iload_n 2, 1) := by decide +kernel
theorem dX11_sheet_36 : decode cX11_sheet 36 = .ok (.ifCond .ne 12, 3) := by decide +kernel
theorem dX11_sheet_39 : decode cX11_sheet 39 = .ok (.aload_n 0, 1) := by decide +kernel
theorem dX11_sheet_40 : decode cX11_sheet 40 = .ok (.getfield 58, 3) := by decide +kernel
theorem dX11_sheet_43 : decode cX11_sheet 43 = .ok (.iload_n 1, 1) := by decide +kernel
theorem dX11_sheet_44 : decode cX11_sheet 44 = .ok (.iconst 0, 1) := by decide +kernel
theorem dX11_sheet_45 : decode cX11_sheet 45 = .ok (.iastore, 1) := by decide +kernel
theorem dX11_sheet_46 : decode cX11_sheet 46 = .ok (.iconst 1, 1) := by decide +kernel
theorem dX11_sheet_47 : decode cX11_sheet 47 = .ok (.ireturn, 1) := by decide +kernel
theorem dX11_sheet_48 : decode cX11_sheet 48 = .ok (.iload_n 3, 1) := by decide +kernel
theorem dX11_sheet_49 : decode cX11_sheet 49 = .ok (.ifCond .ge 9, 3) := by decide +kernel
theorem dX11_sheet_52 : decode cX11_sheet 52 = .ok (.aload_n 0, 1) := by decide +kernel
theorem dX11_sheet_53 : decode cX11_sheet 53 = .ok (.iconst 3, 1) := by decide +kernel
theorem dX11_sheet_54 : decode cX11_sheet 54 = .ok (.invokevirtual 90, 3) := by decide +kernel
theorem dX11_sheet_57 : decode cX11_sheet 57 = .ok (.ireturn, 1) := by decide +kernel
theorem dX11_sheet_58 : decode cX11_sheet 58 = .ok (.iload_n 3, 1) := by decide +kernel
theorem dX11_sheet_59 : decode cX11_sheet 59 = .ok (.bipush 40, 2) := by decide +kernel
theorem dX11_sheet_61 : decode cX11_sheet 61 = .ok (.if_icmp .le 9, 3) := by decide +kernel
theorem dX11_sheet_64 : decode cX11_sheet 64 = .ok (.aload_n 0, 1) := by decide +kernel
theorem dX11_sheet_65 : decode cX11_sheet 65 = .ok (.iconst 1, 1) := by decide +kernel
theorem dX11_sheet_66 : decode cX11_sheet 66 = .ok (.invokevirtual 90, 3) := by decide +kernel
theorem dX11_sheet_69 : decode cX11_sheet 69 = .ok (.ireturn, 1) := by decide +kernel
theorem dX11_sheet_70 : decode cX11_sheet 70 = .ok (.aload_n 0, 1) := by decide +kernel
theorem dX11_sheet_71 : decode cX11_sheet 71 = .ok (.getfield 55, 3) := by decide +kernel
theorem dX11_sheet_74 : decode cX11_sheet 74 = .ok (.iload_n 1, 1) := by decide +kernel
theorem dX11_sheet_75 : decode cX11_sheet 75 = .ok (.aaload, 1) := by decide +kernel
theorem dX11_sheet_76 : decode cX11_sheet 76 = .ok (.iconst 0, 1) := by decide +kernel
theorem dX11_sheet_77 : decode cX11_sheet 77 = .ok (.invokestatic 277, 3) := by decide +kernel
theorem dX11_sheet_80 : decode cX11_sheet 80 = .ok (.aload_n 0, 1) := by decide +kernel
theorem dX11_sheet_81 : decode cX11_sheet 81 = .ok (.getfield 58, 3) := by decide +kernel
theorem dX11_sheet_84 : decode cX11_sheet 84 = .ok (.iload_n 1, 1) := by decide +kernel
theorem dX11_sheet_85 : decode cX11_sheet 85 = .ok (.iload_n 2, 1) := by decide +kernel
theorem dX11_sheet_86 : decode cX11_sheet 86 = .ok (.iastore, 1) := by decide +kernel
theorem dX11_sheet_87 : decode cX11_sheet 87 = .ok (.aload_n 0, 1) := by decide +kernel
theorem dX11_sheet_88 : decode cX11_sheet 88 = .ok (.getfield 61, 3) := by decide +kernel
theorem dX11_sheet_91 : decode cX11_sheet 91 = .ok (.iload_n 1, 1) := by decide +kernel
theorem dX11_sheet_92 : decode cX11_sheet 92 = .ok (.iload_n 3, 1) := by decide +kernel
theorem dX11_sheet_93 : decode cX11_sheet 93 = .ok (.iastore, 1) := by decide +kernel
theorem dX11_sheet_94 : decode cX11_sheet 94 = .ok (.iconst 1, 1) := by decide +kernel
theorem dX11_sheet_95 : decode cX11_sheet 95 = .ok (.ireturn, 1) := by decide +kernel
theorem dX11_put_0 : decode cX11_put 0 = .ok (.iload_n 1, 1) := by decide +kernel
theorem dX11_put_1 : decode cX11_put 1 = .ok (.invokestatic 274, 3) := by decide +kernel
theorem dX11_put_4 : decode cX11_put 4 = .ok (.ifCond .ne 9, 3) := by decide +kernel
theorem dX11_put_7 : decode cX11_put 7 = .ok (.aload_n 0, 1) := by decide +kernel
theorem dX11_put_8 : decode cX11_put 8 = .ok (.iconst 1, 1) := by decide +kernel
theorem dX11_put_9 : decode cX11_put 9 = .ok (.invokevirtual 90, 3) := by decide +kernel
theorem dX11_put_12 : decode cX11_put 12 = .ok (.ireturn, 1) := by decide +kernel
theorem dX11_put_13 : decode cX11_put 13 = .ok (.aload_n 0, 1) := by decide +kernel
theorem dX11_put_14 : decode cX11_put 14 = .ok (.getfield 58, 3) := by decide +kernel
theorem dX11_put_17 : decode cX11_put 17 = .ok (.iload_n 1, 1) := by decide +kernel
theorem dX11_put_18 : decode cX11_put 18 = .ok (.iaload, 1) := by decide +kernel
theorem dX11_put_19 : decode cX11_put 19 = .ok (.ifCond .ne 9, 3) := by decide +kernel
theorem dX11_put_22 : decode cX11_put 22 = .ok (.aload_n 0, 1) := by decide +kernel
theorem dX11_put_23 : decode cX11_put 23 = .ok (.iconst 2, 1) := by decide +kernel
theorem dX11_put_24 : decode cX11_put 24 = .ok (.invokevirtual 90, 3) := by decide +kernel
theorem dX11_put_27 : decode cX11_put 27 = .ok (.ireturn, 1) := by decide +kernel
theorem dX11_put_28 : decode cX11_put 28 = .ok (.iload_n 2, 1) := by decide +kernel
theorem dX11_put_29 : decode cX11_put 29 = .ok (.iconst 0, 1) := by decide +kernel
theorem dX11_put_30 : decode cX11_put 30 = .ok (.aload_n 0, 1) := by decide +kernel
theorem dX11_put_31 : decode cX11_put 31 = .ok (.getfield 61, 3) := by decide +kernel
theorem dX11_put_34 : decode cX11_put 34 = .ok (.iload_n 1, 1) := by decide +kernel
theorem dX11_put_35 : decode cX11_put 35 = .ok (.iaload, 1) := by decide +kernel
theorem dX11_put_36 : decode cX11_put 36 = .ok (.iconst 1, 1) := by decide +kernel
theorem dX11_put_37 : decode cX11_put 37 = .ok (.isub, 1) := by decide +kernel
theorem dX11_put_38 : decode cX11_put 38 = .ok (.invokestatic 82, 3) := by decide +kernel
theorem dX11_put_41 : decode cX11_put 41 = .ok (.ifCond .ne 9, 3) := by decide +kernel
theorem dX11_put_44 : decode cX11_put 44 = .ok (.aload_n 0, 1) := by decide +kernel
theorem dX11_put_45 : decode cX11_put 45 = .ok (.iconst 1, 1) := by decide +kernel
theorem dX11_put_46 : decode cX11_put 46 = .ok (.invokevirtual 90, 3) := by decide +kernel
theorem dX11_put_49 : decode cX11_put 49 = .ok (.ireturn, 1) := by decide +kernel
theorem dX11_put_50 : decode cX11_put 50 = .ok (.aload_n 0, 1) := by decide +kernel
theorem dX11_put_51 : decode cX11_put 51 = .ok (.getfield 55, 3) := by decide +kernel
theorem dX11_put_54 : decode cX11_put 54 = .ok (.iload_n 1, 1) := by decide +kernel
theorem dX11_put_55 : decode cX11_put 55 = .ok (.aaload, 1) := by decide +kernel
theorem dX11_put_56 : decode cX11_put 56 = .ok (.iload_n 2, 1) := by decide +kernel
theorem dX11_put_57 : decode cX11_put 57 = .ok (.aload_n 0, 1) := by decide +kernel
theorem dX11_put_58 : decode cX11_put 58 = .ok (.getfield 58, 3) := by decide +kernel
theorem dX11_put_61 : decode cX11_put 61 = .ok (.iload_n 1, 1) := by decide +kernel
theorem dX11_put_62 : decode cX11_put 62 = .ok (.iaload, 1) := by decide +kernel
theorem dX11_put_63 : decode cX11_put 63 = .ok (.bipush 32, 2) := by decide +kernel
theorem dX11_put_65 : decode cX11_put 65 = .ok (.if_icmp .ne 7, 3) := by decide +kernel
theorem dX11_put_68 : decode cX11_put 68 = .ok (.iload_n 3, 1) := by decide +kernel
theorem dX11_put_69 : decode cX11_put 69 = .ok (.goto 15, 3) := by decide +kernel
theorem dX11_put_72 : decode cX11_put 72 = .ok (.iload_n 3, 1) := by decide +kernel
theorem dX11_put_73 : decode cX11_put 73 = .ok (.iconst 1, 1) := by decide +kernel
theorem dX11_put_74 : decode cX11_put 74 = .ok (.aload_n 0, 1) := by decide +kernel
theorem dX11_put_75 : decode cX11_put 75 = .ok (.getfield 58, 3) := by decide +kernel
theorem dX11_put_78 : decode cX11_put 78 = .ok (.iload_n 1, 1) := by decide +kernel
theorem dX11_put_79 : decode cX11_put 79 = .ok (.iaload, 1) := by decide +kernel
theorem dX11_put_80 : decode cX11_put 80 = .ok (.ishl, 1) := by decide +kernel
theorem dX11_put_81 : decode cX11_put 81 = .ok (.iconst 1, 1) := by decide +kernel
theorem dX11_put_82 : decode cX11_put 82 = .ok (.isub, 1) := by decide +kernel
theorem dX11_put_83 : decode cX11_put 83 = .ok (.iand, 1) := by decide +kernel
theorem dX11_put_84 : decode cX11_put 84 = .ok (.iastore, 1) := by decide +kernel
theorem dX11_put_85 : decode cX11_put 85 = .ok (.iconst 1, 1) := by decide +kernel
theorem dX11_put_86 : decode cX11_put 86 = .ok (.ireturn, 1) := by decide +kernel
theorem dX11_move_0 : decode cX11_move 0 = .ok (.iload_n 1, 1) := by decide +kernel
theorem dX11_move_1 : decode cX11_move 1 = .ok (.invokestatic 274, 3) := by decide +kernel
theorem dX11_move_4 : decode cX11_move 4 = .ok (.ifCond .eq 10, 3) := by decide +kernel
theorem dX11_move_7 : decode cX11_move 7 = .ok (.iload_n 3, 1) := by decide +kernel
theorem dX11_move_8 : decode cX11_move 8 = .ok (.invokestatic 274, 3) := by decide +kernel
theorem dX11_move_11 : decode cX11_move 11 = .ok (.ifCond .ne 9, 3) := by decide +kernel
theorem dX11_move_14 : decode cX11_move 14 = .ok (.aload_n 0, 1) := by decide +kernel
theorem dX11_move_15 : decode cX11_move 15 = .ok (.iconst 1, 1) := by decide +kernel
theorem dX11_move_16 : decode cX11_move 16 = .ok (.invokevirtual 90, 3) := by decide +kernel
theorem dX11_move_19 : decode cX11_move 19 = .ok (.ireturn, 1) := by decide +kernel
theorem dX11_move_20 : decode cX11_move 20 = .ok (.aload_n 0, 1) := by decide +kernel
theorem dX11_move_21 : decode cX11_move 21 = .ok (.getfield 58, 3) := by decide +kernel
theorem dX11_move_24 : decode cX11_move 24 = .ok (.iload_n 1, 1) := by decide +kernel
theorem dX11_move_25 : decode cX11_move 25 = .ok (.iaload, 1) := by decide +kernel
theorem dX11_move_26 : decode cX11_move 26 = .ok (.ifCond .eq 12, 3) := by decide +kernel
theorem dX11_move_29 : decode cX11_move 29 = .ok (.aload_n 0, 1) := by decide +kernel
theorem dX11_move_30 : decode cX11_move 30 = .ok (.getfield 58, 3) := by decide +kernel
theorem dX11_move_33 : decode cX11_move 33 = .ok (.iload_n 3, 1) := by decide +kernel
theorem dX11_move_34 : decode cX11_move 34 = .ok (.iaload, 1) := by decide +kernel
theorem dX11_move_35 : decode cX11_move 35 = .ok (.ifCond .ne 9, 3) := by decide +kernel
theorem dX11_move_38 : decode cX11_move 38 = .ok (.aload_n 0, 1) := by decide +kernel
theorem dX11_move_39 : decode cX11_move 39 = .ok (.iconst 2, 1) := by decide +kernel
theorem dX11_move_40 : decode cX11_move 40 = .ok (.invokevirtual 90, 3) := by decide +kernel
theorem dX11_move_43 : decode cX11_move 43 = .ok (.ireturn, 1) := by decide +kernel
theorem dX11_move_44 : decode cX11_move 44 = .ok (.aload_n 0, 1) := by decide +kernel
theorem dX11_move_45 : decode cX11_move 45 = .ok (.getfield 58, 3) := by decide +kernel
theorem dX11_move_48 : decode cX11_move 48 = .ok (.iload_n 1, 1) := by decide +kernel
theorem dX11_move_49 : decode cX11_move 49 = .ok (.iaload, 1) := by decide +kernel
theorem dX11_move_50 : decode cX11_move 50 = .ok (.aload_n 0, 1) := by decide +kernel
theorem dX11_move_51 : decode cX11_move 51 = .ok (.getfield 58, 3) := by decide +kernel
theorem dX11_move_54 : decode cX11_move 54 = .ok (.iload_n 3, 1) := by decide +kernel
theorem dX11_move_55 : decode cX11_move 55 = .ok (.iaload, 1) := by decide +kernel
theorem dX11_move_56 : decode cX11_move 56 = .ok (.if_icmp .eq 9, 3) := by decide +kernel
theorem dX11_move_59 : decode cX11_move 59 = .ok (.aload_n 0, 1) := by decide +kernel
theorem dX11_move_60 : decode cX11_move 60 = .ok (.iconst 5, 1) := by decide +kernel
theorem dX11_move_61 : decode cX11_move 61 = .ok (.invokevirtual 90, 3) := by decide +kernel
theorem dX11_move_64 : decode cX11_move 64 = .ok (.ireturn, 1) := by decide +kernel
theorem dX11_move_65 : decode cX11_move 65 = .ok (.aload_n 0, 1) := by decide +kernel
theorem dX11_move_66 : decode cX11_move 66 = .ok (.iload_n 1, 1) := by decide +kernel
theorem dX11_move_67 : decode cX11_move 67 = .ok (.iload_n 2, 1) := by decide +kernel
theorem dX11_move_68 : decode cX11_move 68 = .ok (.iload 5, 2) := by decide +kernel
theorem dX11_move_70 : decode cX11_move 70 = .ok (.invokevirtual 283, 3) := by decide +kernel
theorem dX11_move_73 : decode cX11_move 73 = .ok (.ifCond .eq 15, 3) := by decide +kernel
theorem dX11_move_76 : decode cX11_move 76 = .ok (.aload_n 0, 1) := by decide +kernel
theorem dX11_move_77 : decode cX11_move 77 = .ok (.iload_n 3, 1) := by decide +kernel
theorem dX11_move_78 : decode cX11_move 78 = .ok (.iload 4, 2) := by decide +kernel
theorem dX11_move_80 : decode cX11_move 80 = .ok (.iload 5, 2) := by decide +kernel
theorem dX11_move_82 : decode cX11_move 82 = .ok (.invokevirtual 283, 3) := by decide +kernel
theorem dX11_move_85 : decode cX11_move 85 = .ok (.ifCond .ne 9, 3) := by decide +kernel
theorem dX11_move_88 : decode cX11_move 88 = .ok (.aload_n 0, 1) := by decide +kernel
theorem dX11_move_89 : decode cX11_move 89 = .ok (.iconst 1, 1) := by decide +kernel
theorem dX11_move_90 : decode cX11_move 90 = .ok (.invokevirtual 90, 3) := by decide +kernel
theorem dX11_move_93 : decode cX11_move 93 = .ok (.ireturn, 1) := by decide +kernel
theorem dX11_move_94 : decode cX11_move 94 = .ok (.aload_n 0, 1) := by decide +kernel
theorem dX11_move_95 : decode cX11_move 95 = .ok (.getfield 55, 3) := by decide +kernel
theorem dX11_move_98 : decode cX11_move 98 = .ok (.iload_n 1, 1) := by decide +kernel
theorem dX11_move_99 : decode cX11_move 99 = .ok (.aaload, 1) := by decide +kernel
theorem dX11_move_100 : decode cX11_move 100 = .ok (.iload_n 2, 1) := by decide +kernel
theorem dX11_move_101 : decode cX11_move 101 = .ok (.aload_n 0, 1) := by decide +kernel
theorem dX11_move_102 : decode cX11_move 102 = .ok (.getfield 55, 3) := by decide +kernel
theorem dX11_move_105 : decode cX11_move 105 = .ok (.iload_n 3, 1) := by decide +kernel
theorem dX11_move_106 : decode cX11_move 106 = .ok (.aaload, 1) := by decide +kernel
theorem dX11_move_107 : decode cX11_move 107 = .ok (.iload 4, 2) := by decide +kernel
theorem dX11_move_109 : decode cX11_move 109 = .ok (.iload 5, 2) := by decide +kernel
theorem dX11_move_111 : decode cX11_move 111 = .ok (.invokestatic 286, 3) := by decide +kernel
theorem dX11_move_114 : decode cX11_move 114 = .ok (.iload 5, 2) := by decide +kernel
theorem dX11_move_116 : decode cX11_move 116 = .ok (.ireturn, 1) := by decide +kernel
theorem dX11_heats_0 : decode cX11_heats 0 = .ok (.iload_n 1, 1) := by decide +kernel
theorem dX11_heats_1 : decode cX11_heats 1 = .ok (.invokestatic 274, 3) := by decide +kernel
theorem dX11_heats_4 : decode cX11_heats 4 = .ok (.ifCond .ne 9, 3) := by decide +kernel
theorem dX11_heats_7 : decode cX11_heats 7 = .ok (.aload_n 0, 1) := by decide +kernel
theorem dX11_heats_8 : decode cX11_heats 8 = .ok (.iconst 1, 1) := by decide +kernel
theorem dX11_heats_9 : decode cX11_heats 9 = .ok (.invokevirtual 90, 3) := by decide +kernel
theorem dX11_heats_12 : decode cX11_heats 12 = .ok (.ireturn, 1) := by decide +kernel
theorem dX11_heats_13 : decode cX11_heats 13 = .ok (.aload_n 0, 1) := by decide +kernel
theorem dX11_heats_14 : decode cX11_heats 14 = .ok (.getfield 58, 3) := by decide +kernel
theorem dX11_heats_17 : decode cX11_heats 17 = .ok (.iload_n 1, 1) := by decide +kernel
theorem dX11_heats_18 : decode cX11_heats 18 = .ok (.iaload, 1) := by decide +kernel
theorem dX11_heats_19 : decode cX11_heats 19 = .ok (.ifCond .ne 9, 3) := by decide +kernel
theorem dX11_heats_22 : decode cX11_heats 22 = .ok (.aload_n 0, 1) := by decide +kernel
theorem dX11_heats_23 : decode cX11_heats 23 = .ok (.iconst 2, 1) := by decide +kernel
theorem dX11_heats_24 : decode cX11_heats 24 = .ok (.invokevirtual 90, 3) := by decide +kernel
theorem dX11_heats_27 : decode cX11_heats 27 = .ok (.ireturn, 1) := by decide +kernel
theorem dX11_heats_28 : decode cX11_heats 28 = .ok (.aload_n 0, 1) := by decide +kernel
theorem dX11_heats_29 : decode cX11_heats 29 = .ok (.getfield 61, 3) := by decide +kernel
theorem dX11_heats_32 : decode cX11_heats 32 = .ok (.iload_n 1, 1) := by decide +kernel
theorem dX11_heats_33 : decode cX11_heats 33 = .ok (.iaload, 1) := by decide +kernel
theorem dX11_heats_34 : decode cX11_heats 34 = .ok (.bipush 9, 2) := by decide +kernel
theorem dX11_heats_36 : decode cX11_heats 36 = .ok (.invokestatic 292, 3) := by decide +kernel
theorem dX11_heats_39 : decode cX11_heats 39 = .ok (.istore_n 2, 1) := by decide +kernel
theorem dX11_heats_40 : decode cX11_heats 40 = .ok (.iconst 0, 1) := by decide +kernel
theorem dX11_heats_41 : decode cX11_heats 41 = .ok (.istore_n 3, 1) := by decide +kernel
theorem dX11_heats_42 : decode cX11_heats 42 = .ok (.iload_n 3, 1) := by decide +kernel
theorem dX11_heats_43 : decode cX11_heats 43 = .ok (.iload_n 2, 1) := by decide +kernel
theorem dX11_heats_44 : decode cX11_heats 44 = .ok (.if_icmp .ge 45, 3) := by decide +kernel
theorem dX11_heats_47 : decode cX11_heats 47 = .ok (.aload_n 0, 1) := by decide +kernel
theorem dX11_heats_48 : decode cX11_heats 48 = .ok (.getfield 55, 3) := by decide +kernel
theorem dX11_heats_51 : decode cX11_heats 51 = .ok (.iload_n 1, 1) := by decide +kernel
theorem dX11_heats_52 : decode cX11_heats 52 = .ok (.aaload, 1) := by decide +kernel
theorem dX11_heats_53 : decode cX11_heats 53 = .ok (.iload_n 3, 1) := by decide +kernel
theorem dX11_heats_54 : decode cX11_heats 54 = .ok (.iaload, 1) := by decide +kernel
theorem dX11_heats_55 : decode cX11_heats 55 = .ok (.istore 4, 2) := by decide +kernel
theorem dX11_heats_57 : decode cX11_heats 57 = .ok (.iload 4, 2) := by decide +kernel
theorem dX11_heats_59 : decode cX11_heats 59 = .ok (.iconst 0, 1) := by decide +kernel
theorem dX11_heats_60 : decode cX11_heats 60 = .ok (.iconst 0, 1) := by decide +kernel
theorem dX11_heats_61 : decode cX11_heats 61 = .ok (.invokestatic 86, 3) := by decide +kernel
theorem dX11_heats_64 : decode cX11_heats 64 = .ok (.invokestatic 82, 3) := by decide +kernel
theorem dX11_heats_67 : decode cX11_heats 67 = .ok (.ifCond .ne 5, 3) := by decide +kernel
theorem dX11_heats_70 : decode cX11_heats 70 = .ok (.iload_n 3, 1) := by decide +kernel
theorem dX11_heats_71 : decode cX11_heats 71 = .ok (.ireturn, 1) := by decide +kernel
theorem dX11_heats_72 : decode cX11_heats 72 = .ok (.aload_n 0, 1) := by decide +kernel
theorem dX11_heats_73 : decode cX11_heats 73 = .ok (.getfield 72, 3) := by decide +kernel
theorem dX11_heats_76 : decode cX11_heats 76 = .ok (.getfield 96, 3) := by decide +kernel
theorem dX11_heats_79 : decode cX11_heats 79 = .ok (.iload_n 3, 1) := by decide +kernel
theorem dX11_heats_80 : decode cX11_heats 80 = .ok (.iload 4, 2) := by decide +kernel
theorem dX11_heats_82 : decode cX11_heats 82 = .ok (.iastore, 1) := by decide +kernel
theorem dX11_heats_83 : decode cX11_heats 83 = .ok (.iinc 3 1, 3) := by decide +kernel
theorem dX11_heats_86 : decode cX11_heats 86 = .ok (.goto (-44), 3) := by decide +kernel
theorem dX11_heats_89 : decode cX11_heats 89 = .ok (.iload_n 2, 1) := by decide +kernel
theorem dX11_heats_90 : decode cX11_heats 90 = .ok (.ireturn, 1) := by decide +kernel
theorem dX11_judge_0 : decode cX11_judge 0 = .ok (.iload_n 1, 1) := by decide +kernel
theorem dX11_judge_1 : decode cX11_judge 1 = .ok (.invokestatic 274, 3) := by decide +kernel
theorem dX11_judge_4 : decode cX11_judge 4 = .ok (.ifCond .ne 9, 3) := by decide +kernel
theorem dX11_judge_7 : decode cX11_judge 7 = .ok (.aload_n 0, 1) := by decide +kernel
theorem dX11_judge_8 : decode cX11_judge 8 = .ok (.iconst 1, 1) := by decide +kernel
theorem dX11_judge_9 : decode cX11_judge 9 = .ok (.invokevirtual 90, 3) := by decide +kernel
theorem dX11_judge_12 : decode cX11_judge 12 = .ok (.ireturn, 1) := by decide +kernel
theorem dX11_judge_13 : decode cX11_judge 13 = .ok (.aload_n 0, 1) := by decide +kernel
theorem dX11_judge_14 : decode cX11_judge 14 = .ok (.getfield 58, 3) := by decide +kernel
theorem dX11_judge_17 : decode cX11_judge 17 = .ok (.iload_n 1, 1) := by decide +kernel
theorem dX11_judge_18 : decode cX11_judge 18 = .ok (.iaload, 1) := by decide +kernel
theorem dX11_judge_19 : decode cX11_judge 19 = .ok (.ifCond .ne 9, 3) := by decide +kernel
theorem dX11_judge_22 : decode cX11_judge 22 = .ok (.aload_n 0, 1) := by decide +kernel
theorem dX11_judge_23 : decode cX11_judge 23 = .ok (.iconst 2, 1) := by decide +kernel
theorem dX11_judge_24 : decode cX11_judge 24 = .ok (.invokevirtual 90, 3) := by decide +kernel
theorem dX11_judge_27 : decode cX11_judge 27 = .ok (.ireturn, 1) := by decide +kernel
theorem dX11_judge_28 : decode cX11_judge 28 = .ok (.aload_n 0, 1) := by decide +kernel
theorem dX11_judge_29 : decode cX11_judge 29 = .ok (.getfield 61, 3) := by decide +kernel
theorem dX11_judge_32 : decode cX11_judge 32 = .ok (.iload_n 1, 1) := by decide +kernel
theorem dX11_judge_33 : decode cX11_judge 33 = .ok (.iaload, 1) := by decide +kernel
theorem dX11_judge_34 : decode cX11_judge 34 = .ok (.aload_n 0, 1) := by decide +kernel
theorem dX11_judge_35 : decode cX11_judge 35 = .ok (.getfield 72, 3) := by decide +kernel
theorem dX11_judge_38 : decode cX11_judge 38 = .ok (.getfield 123, 3) := by decide +kernel
theorem dX11_judge_41 : decode cX11_judge 41 = .ok (.invokestatic 292, 3) := by decide +kernel
theorem dX11_judge_44 : decode cX11_judge 44 = .ok (.istore_n 2, 1) := by decide +kernel
theorem dX11_judge_45 : decode cX11_judge 45 = .ok (.iconst 0, 1) := by decide +kernel
theorem dX11_judge_46 : decode cX11_judge 46 = .ok (.istore_n 3, 1) := by decide +kernel
theorem dX11_judge_47 : decode cX11_judge 47 = .ok (.iload_n 3, 1) := by decide +kernel
theorem dX11_judge_48 : decode cX11_judge 48 = .ok (.iload_n 2, 1) := by decide +kernel
theorem dX11_judge_49 : decode cX11_judge 49 = .ok (.if_icmp .ge 34, 3) := by decide +kernel
theorem dX11_judge_52 : decode cX11_judge 52 = .ok (.aload_n 0, 1) := by decide +kernel
theorem dX11_judge_53 : decode cX11_judge 53 = .ok (.getfield 55, 3) := by decide +kernel
theorem dX11_judge_56 : decode cX11_judge 56 = .ok (.iload_n 1, 1) := by decide +kernel
theorem dX11_judge_57 : decode cX11_judge 57 = .ok (.aaload, 1) := by decide +kernel
theorem dX11_judge_58 : decode cX11_judge 58 = .ok (.iload_n 3, 1) := by decide +kernel
theorem dX11_judge_59 : decode cX11_judge 59 = .ok (.iaload, 1) := by decide +kernel
theorem dX11_judge_60 : decode cX11_judge 60 = .ok (.aload_n 0, 1) := by decide +kernel
theorem dX11_judge_61 : decode cX11_judge 61 = .ok (.getfield 72, 3) := by decide +kernel
theorem dX11_judge_64 : decode cX11_judge 64 = .ok (.getfield 126, 3) := by decide +kernel
theorem dX11_judge_67 : decode cX11_judge 67 = .ok (.iload_n 3, 1) := by decide +kernel
theorem dX11_judge_68 : decode cX11_judge 68 = .ok (.aaload, 1) := by decide +kernel
theorem dX11_judge_69 : decode cX11_judge 69 = .ok (.invokevirtual 297, 3) := by decide +kernel
theorem dX11_judge_72 : decode cX11_judge 72 = .ok (.if_icmp .eq 5, 3) := by decide +kernel
theorem dX11_judge_75 : decode cX11_judge 75 = .ok (.iload_n 3, 1) := by decide +kernel
theorem dX11_judge_76 : decode cX11_judge 76 = .ok (.ireturn, 1) := by decide +kernel
theorem dX11_judge_77 : decode cX11_judge 77 = .ok (.iinc 3 1, 3) := by decide +kernel
theorem dX11_judge_80 : decode cX11_judge 80 = .ok (.goto (-33), 3) := by decide +kernel
theorem dX11_judge_83 : decode cX11_judge 83 = .ok (.aload_n 0, 1) := by decide +kernel
theorem dX11_judge_84 : decode cX11_judge 84 = .ok (.getfield 61, 3) := by decide +kernel
theorem dX11_judge_87 : decode cX11_judge 87 = .ok (.iload_n 1, 1) := by decide +kernel
theorem dX11_judge_88 : decode cX11_judge 88 = .ok (.iaload, 1) := by decide +kernel
theorem dX11_judge_89 : decode cX11_judge 89 = .ok (.aload_n 0, 1) := by decide +kernel
theorem dX11_judge_90 : decode cX11_judge 90 = .ok (.getfield 72, 3) := by decide +kernel
theorem dX11_judge_93 : decode cX11_judge 93 = .ok (.getfield 123, 3) := by decide +kernel
theorem dX11_judge_96 : decode cX11_judge 96 = .ok (.if_icmp .ne 7, 3) := by decide +kernel
theorem dX11_judge_99 : decode cX11_judge 99 = .ok (.iconst (-1), 1) := by decide +kernel
theorem dX11_judge_100 : decode cX11_judge 100 = .ok (.goto 4, 3) := by decide +kernel
theorem dX11_judge_103 : decode cX11_judge 103 = .ok (.iload_n 2, 1) := by decide +kernel
theorem dX11_judge_104 : decode cX11_judge 104 = .ok (.ireturn, 1) := by decide +kernel
theorem dX11_image_0 : decode cX11_image 0 = .ok (.aload_n 0, 1) := by decide +kernel
theorem dX11_image_1 : decode cX11_image 1 = .ok (.getfield 76, 3) := by decide +kernel
theorem dX11_image_4 : decode cX11_image 4 = .ok (.aload_n 0, 1) := by decide +kernel
theorem dX11_image_5 : decode cX11_image 5 = .ok (.getfield 72, 3) := by decide +kernel
theorem dX11_image_8 : decode cX11_image 8 = .ok (.invokevirtual 300, 3) := by decide +kernel
theorem dX11_image_11 : decode cX11_image 11 = .ok (.aload_n 0, 1) := by decide +kernel
theorem dX11_image_12 : decode cX11_image 12 = .ok (.dup, 1) := by decide +kernel
theorem dX11_image_13 : decode cX11_image 13 = .ok (.getfield 303, 3) := by decide +kernel
theorem dX11_image_16 : decode cX11_image 16 = .ok (.iconst 1, 1) := by decide +kernel
theorem dX11_image_17 : decode cX11_image 17 = .ok (.iadd, 1) := by decide +kernel
theorem dX11_image_18 : decode cX11_image 18 = .ok (.putfield 303, 3) := by decide +kernel
theorem dX11_image_21 : decode cX11_image 21 = .ok (.aload_n 0, 1) := by decide +kernel
theorem dX11_image_22 : decode cX11_image 22 = .ok (.getfield 303, 3) := by decide +kernel
theorem dX11_image_25 : decode cX11_image 25 = .ok (.ireturn, 1) := by decide +kernel
theorem dX11_restore_0 : decode cX11_restore 0 = .ok (.aload_n 0, 1) := by decide +kernel
theorem dX11_restore_1 : decode cX11_restore 1 = .ok (.getfield 303, 3) := by decide +kernel
theorem dX11_restore_4 : decode cX11_restore 4 = .ok (.ifCond .ne 9, 3) := by decide +kernel
theorem dX11_restore_7 : decode cX11_restore 7 = .ok (.aload_n 0, 1) := by decide +kernel
theorem dX11_restore_8 : decode cX11_restore 8 = .ok (.iconst 2, 1) := by decide +kernel
theorem dX11_restore_9 : decode cX11_restore 9 = .ok (.invokevirtual 90, 3) := by decide +kernel
theorem dX11_restore_12 : decode cX11_restore 12 = .ok (.ireturn, 1) := by decide +kernel
theorem dX11_restore_13 : decode cX11_restore 13 = .ok (.aload_n 0, 1) := by decide +kernel
theorem dX11_restore_14 : decode cX11_restore 14 = .ok (.getfield 72, 3) := by decide +kernel
theorem dX11_restore_17 : decode cX11_restore 17 = .ok (.aload_n 0, 1) := by decide +kernel
theorem dX11_restore_18 : decode cX11_restore 18 = .ok (.getfield 76, 3) := by decide +kernel
theorem dX11_restore_21 : decode cX11_restore 21 = .ok (.invokevirtual 300, 3) := by decide +kernel
theorem dX11_restore_24 : decode cX11_restore 24 = .ok (.aload_n 0, 1) := by decide +kernel
theorem dX11_restore_25 : decode cX11_restore 25 = .ok (.getfield 72, 3) := by decide +kernel
theorem dX11_restore_28 : decode cX11_restore 28 = .ok (.getfield 105, 3) := by decide +kernel
theorem dX11_restore_31 : decode cX11_restore 31 = .ok (.ireturn, 1) := by decide +kernel
theorem dX11_tell_0 : decode cX11_tell 0 = .ok (.aload_n 0, 1) := by decide +kernel
theorem dX11_tell_1 : decode cX11_tell 1 = .ok (.getfield 72, 3) := by decide +kernel
theorem dX11_tell_4 : decode cX11_tell 4 = .ok (.getfield 306, 3) := by decide +kernel
theorem dX11_tell_7 : decode cX11_tell 7 = .ok (.bipush 20, 2) := by decide +kernel
theorem dX11_tell_9 : decode cX11_tell 9 = .ok (.if_icmp .lt 9, 3) := by decide +kernel
theorem dX11_tell_12 : decode cX11_tell 12 = .ok (.aload_n 0, 1) := by decide +kernel
theorem dX11_tell_13 : decode cX11_tell 13 = .ok (.iconst 4, 1) := by decide +kernel
theorem dX11_tell_14 : decode cX11_tell 14 = .ok (.invokevirtual 90, 3) := by decide +kernel
theorem dX11_tell_17 : decode cX11_tell 17 = .ok (.ireturn, 1) := by decide +kernel
theorem dX11_tell_18 : decode cX11_tell 18 = .ok (.aload_n 0, 1) := by decide +kernel
theorem dX11_tell_19 : decode cX11_tell 19 = .ok (.getfield 72, 3) := by decide +kernel
theorem dX11_tell_22 : decode cX11_tell 22 = .ok (.getfield 309, 3) := by decide +kernel
theorem dX11_tell_25 : decode cX11_tell 25 = .ok (.aload_n 0, 1) := by decide +kernel
theorem dX11_tell_26 : decode cX11_tell 26 = .ok (.getfield 72, 3) := by decide +kernel
theorem dX11_tell_29 : decode cX11_tell 29 = .ok (.getfield 306, 3) := by decide +kernel
theorem dX11_tell_32 : decode cX11_tell 32 = .ok (.iload_n 1, 1) := by decide +kernel
theorem dX11_tell_33 : decode cX11_tell 33 = .ok (.iastore, 1) := by decide +kernel
theorem dX11_tell_34 : decode cX11_tell 34 = .ok (.aload_n 0, 1) := by decide +kernel
theorem dX11_tell_35 : decode cX11_tell 35 = .ok (.getfield 72, 3) := by decide +kernel
theorem dX11_tell_38 : decode cX11_tell 38 = .ok (.dup, 1) := by decide +kernel
theorem dX11_tell_39 : decode cX11_tell 39 = .ok (.getfield 306, 3) := by decide +kernel
theorem dX11_tell_42 : decode cX11_tell 42 = .ok (.iconst 1, 1) := by decide +kernel
theorem dX11_tell_43 : decode cX11_tell 43 = .ok (.iadd, 1) := by decide +kernel
theorem dX11_tell_44 : decode cX11_tell 44 = .ok (.putfield 306, 3) := by decide +kernel
theorem dX11_tell_47 : decode cX11_tell 47 = .ok (.aload_n 0, 1) := by decide +kernel
theorem dX11_tell_48 : decode cX11_tell 48 = .ok (.getfield 72, 3) := by decide +kernel
theorem dX11_tell_51 : decode cX11_tell 51 = .ok (.getfield 306, 3) := by decide +kernel
theorem dX11_tell_54 : decode cX11_tell 54 = .ok (.ireturn, 1) := by decide +kernel
theorem dX11_check_0 : decode cX11_check 0 = .ok (.aload_n 0, 1) := by decide +kernel
theorem dX11_check_1 : decode cX11_check 1 = .ok (.getfield 72, 3) := by decide +kernel
theorem dX11_check_4 : decode cX11_check 4 = .ok (.getfield 306, 3) := by decide +kernel
theorem dX11_check_7 : decode cX11_check 7 = .ok (.istore_n 1, 1) := by decide +kernel
theorem dX11_check_8 : decode cX11_check 8 = .ok (.aload_n 0, 1) := by decide +kernel
theorem dX11_check_9 : decode cX11_check 9 = .ok (.getfield 72, 3) := by decide +kernel
theorem dX11_check_12 : decode cX11_check 12 = .ok (.iconst 0, 1) := by decide +kernel
theorem dX11_check_13 : decode cX11_check 13 = .ok (.putfield 306, 3) := by decide +kernel
theorem dX11_check_16 : decode cX11_check 16 = .ok (.iconst 0, 1) := by decide +kernel
theorem dX11_check_17 : decode cX11_check 17 = .ok (.istore_n 2, 1) := by decide +kernel
theorem dX11_check_18 : decode cX11_check 18 = .ok (.iload_n 2, 1) := by decide +kernel
theorem dX11_check_19 : decode cX11_check 19 = .ok (.aload_n 0, 1) := by decide +kernel
theorem dX11_check_20 : decode cX11_check 20 = .ok (.getfield 72, 3) := by decide +kernel
theorem dX11_check_23 : decode cX11_check 23 = .ok (.getfield 123, 3) := by decide +kernel
theorem dX11_check_26 : decode cX11_check 26 = .ok (.if_icmp .ge 27, 3) := by decide +kernel
theorem dX11_check_29 : decode cX11_check 29 = .ok (.aload_n 0, 1) := by decide +kernel
theorem dX11_check_30 : decode cX11_check 30 = .ok (.getfield 38, 3) := by decide +kernel
theorem dX11_check_33 : decode cX11_check 33 = .ok (.iload_n 2, 1) := by decide +kernel
theorem dX11_check_34 : decode cX11_check 34 = .ok (.aaload, 1) := by decide +kernel
theorem dX11_check_35 : decode cX11_check 35 = .ok (.aload_n 0, 1) := by decide +kernel
theorem dX11_check_36 : decode cX11_check 36 = .ok (.getfield 72, 3) := by decide +kernel
theorem dX11_check_39 : decode cX11_check 39 = .ok (.getfield 126, 3) := by decide +kernel
theorem dX11_check_42 : decode cX11_check 42 = .ok (.iload_n 2, 1) := by decide +kernel
theorem dX11_check_43 : decode cX11_check 43 = .ok (.aaload, 1) := by decide +kernel
theorem dX11_check_44 : decode cX11_check 44 = .ok (.invokevirtual 216, 3) := by decide +kernel
theorem dX11_check_47 : decode cX11_check 47 = .ok (.iinc 2 1, 3) := by decide +kernel
theorem dX11_check_50 : decode cX11_check 50 = .ok (.goto (-32), 3) := by decide +kernel
theorem dX11_check_53 : decode cX11_check 53 = .ok (.iconst 0, 1) := by decide +kernel
theorem dX11_check_54 : decode cX11_check 54 = .ok (.istore_n 2, 1) := by decide +kernel
theorem dX11_check_55 : decode cX11_check 55 = .ok (.iload_n 2, 1) := by decide +kernel
theorem dX11_check_56 : decode cX11_check 56 = .ok (.iload_n 1, 1) := by decide +kernel
theorem dX11_check_57 : decode cX11_check 57 = .ok (.if_icmp .ge 38, 3) := by decide +kernel
theorem dX11_check_60 : decode cX11_check 60 = .ok (.aload_n 0, 1) := by decide +kernel
theorem dX11_check_61 : decode cX11_check 61 = .ok (.aload_n 0, 1) := by decide +kernel
theorem dX11_check_62 : decode cX11_check 62 = .ok (.getfield 72, 3) := by decide +kernel
theorem dX11_check_65 : decode cX11_check 65 = .ok (.getfield 105, 3) := by decide +kernel
theorem dX11_check_68 : decode cX11_check 68 = .ok (.iload_n 2, 1) := by decide +kernel
theorem dX11_check_69 : decode cX11_check 69 = .ok (.iadd, 1) := by decide +kernel
theorem dX11_check_70 : decode cX11_check 70 = .ok (.invokevirtual 312, 3) := by decide +kernel
theorem dX11_check_73 : decode cX11_check 73 = .ok (.aload_n 0, 1) := by decide +kernel
theorem dX11_check_74 : decode cX11_check 74 = .ok (.getfield 72, 3) := by decide +kernel
theorem dX11_check_77 : decode cX11_check 77 = .ok (.getfield 309, 3) := by decide +kernel
theorem dX11_check_80 : decode cX11_check 80 = .ok (.iload_n 2, 1) := by decide +kernel
theorem dX11_check_81 : decode cX11_check 81 = .ok (.iaload, 1) := by decide +kernel
theorem dX11_check_82 : decode cX11_check 82 = .ok (.if_icmp .eq 7, 3) := by decide +kernel
theorem dX11_check_85 : decode cX11_check 85 = .ok (.iconst 1, 1) := by decide +kernel
theorem dX11_check_86 : decode cX11_check 86 = .ok (.iload_n 2, 1) := by decide +kernel
theorem dX11_check_87 : decode cX11_check 87 = .ok (.iadd, 1) := by decide +kernel
theorem dX11_check_88 : decode cX11_check 88 = .ok (.ireturn, 1) := by decide +kernel
theorem dX11_check_89 : decode cX11_check 89 = .ok (.iinc 2 1, 3) := by decide +kernel
theorem dX11_check_92 : decode cX11_check 92 = .ok (.goto (-37), 3) := by decide +kernel
theorem dX11_check_95 : decode cX11_check 95 = .ok (.iconst 0, 1) := by decide +kernel
theorem dX11_check_96 : decode cX11_check 96 = .ok (.ireturn, 1) := by decide +kernel
theorem dX11_count_0 : decode cX11_count 0 = .ok (.iload_n 1, 1) := by decide +kernel
theorem dX11_count_1 : decode cX11_count 1 = .ok (.tableswitch 136 0 9 #[55, 63, 71, 79, 88, 97, 105, 113, 121, 128], 55) := by decide +kernel
theorem dX11_count_56 : decode cX11_count 56 = .ok (.aload_n 0, 1) := by decide +kernel
theorem dX11_count_57 : decode cX11_count 57 = .ok (.getfield 72, 3) := by decide +kernel
theorem dX11_count_60 : decode cX11_count 60 = .ok (.getfield 123, 3) := by decide +kernel
theorem dX11_count_63 : decode cX11_count 63 = .ok (.ireturn, 1) := by decide +kernel
theorem dX11_count_64 : decode cX11_count 64 = .ok (.aload_n 0, 1) := by decide +kernel
theorem dX11_count_65 : decode cX11_count 65 = .ok (.getfield 72, 3) := by decide +kernel
theorem dX11_count_68 : decode cX11_count 68 = .ok (.getfield 105, 3) := by decide +kernel
theorem dX11_count_71 : decode cX11_count 71 = .ok (.ireturn, 1) := by decide +kernel
theorem dX11_count_72 : decode cX11_count 72 = .ok (.aload_n 0, 1) := by decide +kernel
theorem dX11_count_73 : decode cX11_count 73 = .ok (.getfield 72, 3) := by decide +kernel
theorem dX11_count_76 : decode cX11_count 76 = .ok (.getfield 206, 3) := by decide +kernel
theorem dX11_count_79 : decode cX11_count 79 = .ok (.ireturn, 1) := by decide +kernel
theorem dX11_count_80 : decode cX11_count 80 = .ok (.aload_n 0, 1) := by decide +kernel
theorem dX11_count_81 : decode cX11_count 81 = .ok (.getfield 72, 3) := by decide +kernel
theorem dX11_count_84 : decode cX11_count 84 = .ok (.iconst 3, 1) := by decide +kernel
theorem dX11_count_85 : decode cX11_count 85 = .ok (.invokevirtual 315, 3) := by decide +kernel
theorem dX11_count_88 : decode cX11_count 88 = .ok (.ireturn, 1) := by decide +kernel
theorem dX11_count_89 : decode cX11_count 89 = .ok (.aload_n 0, 1) := by decide +kernel
theorem dX11_count_90 : decode cX11_count 90 = .ok (.getfield 72, 3) := by decide +kernel
theorem dX11_count_93 : decode cX11_count 93 = .ok (.iconst 2, 1) := by decide +kernel
theorem dX11_count_94 : decode cX11_count 94 = .ok (.invokevirtual 315, 3) := by decide +kernel
theorem dX11_count_97 : decode cX11_count 97 = .ok (.ireturn, 1) := by decide +kernel
theorem dX11_count_98 : decode cX11_count 98 = .ok (.aload_n 0, 1) := by decide +kernel
theorem dX11_count_99 : decode cX11_count 99 = .ok (.getfield 72, 3) := by decide +kernel
theorem dX11_count_102 : decode cX11_count 102 = .ok (.invokevirtual 318, 3) := by decide +kernel
theorem dX11_count_105 : decode cX11_count 105 = .ok (.ireturn, 1) := by decide +kernel
theorem dX11_count_106 : decode cX11_count 106 = .ok (.aload_n 0, 1) := by decide +kernel
theorem dX11_count_107 : decode cX11_count 107 = .ok (.getfield 72, 3) := by decide +kernel
theorem dX11_count_110 : decode cX11_count 110 = .ok (.getfield 182, 3) := by decide +kernel
theorem dX11_count_113 : decode cX11_count 113 = .ok (.ireturn, 1) := by decide +kernel
theorem dX11_count_114 : decode cX11_count 114 = .ok (.aload_n 0, 1) := by decide +kernel
theorem dX11_count_115 : decode cX11_count 115 = .ok (.getfield 72, 3) := by decide +kernel
theorem dX11_count_118 : decode cX11_count 118 = .ok (.getfield 306, 3) := by decide +kernel
theorem dX11_count_121 : decode cX11_count 121 = .ok (.ireturn, 1) := by decide +kernel
theorem dX11_count_122 : decode cX11_count 122 = .ok (.aload_n 0, 1) := by decide +kernel
theorem dX11_count_123 : decode cX11_count 123 = .ok (.getfield 49, 3) := by decide +kernel
theorem dX11_count_126 : decode cX11_count 126 = .ok (.iconst 0, 1) := by decide +kernel
theorem dX11_count_127 : decode cX11_count 127 = .ok (.iaload, 1) := by decide +kernel
theorem dX11_count_128 : decode cX11_count 128 = .ok (.ireturn, 1) := by decide +kernel
theorem dX11_count_129 : decode cX11_count 129 = .ok (.aload_n 0, 1) := by decide +kernel
theorem dX11_count_130 : decode cX11_count 130 = .ok (.getfield 72, 3) := by decide +kernel
theorem dX11_count_133 : decode cX11_count 133 = .ok (.getfield 259, 3) := by decide +kernel
theorem dX11_count_136 : decode cX11_count 136 = .ok (.ireturn, 1) := by decide +kernel
theorem dX11_count_137 : decode cX11_count 137 = .ok (.aload_n 0, 1) := by decide +kernel
theorem dX11_count_138 : decode cX11_count 138 = .ok (.iconst 1, 1) := by decide +kernel
theorem dX11_count_139 : decode cX11_count 139 = .ok (.invokevirtual 90, 3) := by decide +kernel
theorem dX11_count_142 : decode cX11_count 142 = .ok (.ireturn, 1) := by decide +kernel
theorem dX11_told_0 : decode cX11_told 0 = .ok (.iload_n 1, 1) := by decide +kernel
theorem dX11_told_1 : decode cX11_told 1 = .ok (.iconst 1, 1) := by decide +kernel
theorem dX11_told_2 : decode cX11_told 2 = .ok (.iconst 5, 1) := by decide +kernel
theorem dX11_told_3 : decode cX11_told 3 = .ok (.invokestatic 82, 3) := by decide +kernel
theorem dX11_told_6 : decode cX11_told 6 = .ok (.ifCond .ne 9, 3) := by decide +kernel
theorem dX11_told_9 : decode cX11_told 9 = .ok (.aload_n 0, 1) := by decide +kernel
theorem dX11_told_10 : decode cX11_told 10 = .ok (.iconst 1, 1) := by decide +kernel
theorem dX11_told_11 : decode cX11_told 11 = .ok (.invokevirtual 90, 3) := by decide +kernel
theorem dX11_told_14 : decode cX11_told 14 = .ok (.ireturn, 1) := by decide +kernel
theorem dX11_told_15 : decode cX11_told 15 = .ok (.aload_n 0, 1) := by decide +kernel
theorem dX11_told_16 : decode cX11_told 16 = .ok (.getfield 64, 3) := by decide +kernel
theorem dX11_told_19 : decode cX11_told 19 = .ok (.iload_n 1, 1) := by decide +kernel
theorem dX11_told_20 : decode cX11_told 20 = .ok (.iaload, 1) := by decide +kernel
theorem dX11_told_21 : decode cX11_told 21 = .ok (.ireturn, 1) := by decide +kernel
theorem dX11_refuse_0 : decode cX11_refuse 0 = .ok (.aload_n 0, 1) := by decide +kernel
theorem dX11_refuse_1 : decode cX11_refuse 1 = .ok (.getfield 64, 3) := by decide +kernel
theorem dX11_refuse_4 : decode cX11_refuse 4 = .ok (.iload_n 1, 1) := by decide +kernel
theorem dX11_refuse_5 : decode cX11_refuse 5 = .ok (.dup2, 1) := by decide +kernel
theorem dX11_refuse_6 : decode cX11_refuse 6 = .ok (.iaload, 1) := by decide +kernel
theorem dX11_refuse_7 : decode cX11_refuse 7 = .ok (.iconst 1, 1) := by decide +kernel
theorem dX11_refuse_8 : decode cX11_refuse 8 = .ok (.iadd, 1) := by decide +kernel
theorem dX11_refuse_9 : decode cX11_refuse 9 = .ok (.iastore, 1) := by decide +kernel
theorem dX11_refuse_10 : decode cX11_refuse 10 = .ok (.ldc_w 321, 3) := by decide +kernel
theorem dX11_refuse_13 : decode cX11_refuse 13 = .ok (.iload_n 1, 1) := by decide +kernel
theorem dX11_refuse_14 : decode cX11_refuse 14 = .ok (.isub, 1) := by decide +kernel
theorem dX11_refuse_15 : decode cX11_refuse 15 = .ok (.ireturn, 1) := by decide +kernel
theorem dX11_within_0 : decode cX11_within 0 = .ok (.iload_n 0, 1) := by decide +kernel
theorem dX11_within_1 : decode cX11_within 1 = .ok (.iload_n 1, 1) := by decide +kernel
theorem dX11_within_2 : decode cX11_within 2 = .ok (.if_icmp .lt 12, 3) := by decide +kernel
theorem dX11_within_5 : decode cX11_within 5 = .ok (.iload_n 0, 1) := by decide +kernel
theorem dX11_within_6 : decode cX11_within 6 = .ok (.iload_n 2, 1) := by decide +kernel
theorem dX11_within_7 : decode cX11_within 7 = .ok (.if_icmp .gt 7, 3) := by decide +kernel
theorem dX11_within_10 : decode cX11_within 10 = .ok (.iconst 1, 1) := by decide +kernel
theorem dX11_within_11 : decode cX11_within 11 = .ok (.goto 4, 3) := by decide +kernel
theorem dX11_within_14 : decode cX11_within 14 = .ok (.iconst 0, 1) := by decide +kernel
theorem dX11_within_15 : decode cX11_within 15 = .ok (.ireturn, 1) := by decide +kernel
theorem dX11_mostOfHill_0 : decode cX11_mostOfHill 0 = .ok (.iload_n 0, 1) := by decide +kernel
theorem dX11_mostOfHill_1 : decode cX11_mostOfHill 1 = .ok (.ifCond .ne 8, 3) := by decide +kernel
theorem dX11_mostOfHill_4 : decode cX11_mostOfHill 4 = .ok (.bipush 40, 2) := by decide +kernel
theorem dX11_mostOfHill_6 : decode cX11_mostOfHill 6 = .ok (.goto 14, 3) := by decide +kernel
theorem dX11_mostOfHill_9 : decode cX11_mostOfHill 9 = .ok (.iload_n 0, 1) := by decide +kernel
theorem dX11_mostOfHill_10 : decode cX11_mostOfHill 10 = .ok (.iconst 1, 1) := by decide +kernel
theorem dX11_mostOfHill_11 : decode cX11_mostOfHill 11 = .ok (.if_icmp .ne 7, 3) := by decide +kernel
theorem dX11_mostOfHill_14 : decode cX11_mostOfHill 14 = .ok (.iconst 3, 1) := by decide +kernel
theorem dX11_mostOfHill_15 : decode cX11_mostOfHill 15 = .ok (.goto 5, 3) := by decide +kernel
theorem dX11_mostOfHill_18 : decode cX11_mostOfHill 18 = .ok (.bipush 99, 2) := by decide +kernel
theorem dX11_mostOfHill_20 : decode cX11_mostOfHill 20 = .ok (.ireturn, 1) := by decide +kernel
theorem dX11_isCarrier_0 : decode cX11_isCarrier 0 = .ok (.iload_n 0, 1) := by decide +kernel
theorem dX11_isCarrier_1 : decode cX11_isCarrier 1 = .ok (.iconst 0, 1) := by decide +kernel
theorem dX11_isCarrier_2 : decode cX11_isCarrier 2 = .ok (.iconst 3, 1) := by decide +kernel
theorem dX11_isCarrier_3 : decode cX11_isCarrier 3 = .ok (.invokestatic 82, 3) := by decide +kernel
theorem dX11_isCarrier_6 : decode cX11_isCarrier 6 = .ok (.ireturn, 1) := by decide +kernel
theorem dX11_isSheet_0 : decode cX11_isSheet 0 = .ok (.iload_n 0, 1) := by decide +kernel
theorem dX11_isSheet_1 : decode cX11_isSheet 1 = .ok (.iconst 0, 1) := by decide +kernel
theorem dX11_isSheet_2 : decode cX11_isSheet 2 = .ok (.iconst 3, 1) := by decide +kernel
theorem dX11_isSheet_3 : decode cX11_isSheet 3 = .ok (.invokestatic 82, 3) := by decide +kernel
theorem dX11_isSheet_6 : decode cX11_isSheet 6 = .ok (.ireturn, 1) := by decide +kernel
theorem dX11_isChurn_0 : decode cX11_isChurn 0 = .ok (.iload_n 1, 1) := by decide +kernel
theorem dX11_isChurn_1 : decode cX11_isChurn 1 = .ok (.iconst 0, 1) := by decide +kernel
theorem dX11_isChurn_2 : decode cX11_isChurn 2 = .ok (.aload_n 0, 1) := by decide +kernel
theorem dX11_isChurn_3 : decode cX11_isChurn 3 = .ok (.getfield 72, 3) := by decide +kernel
theorem dX11_isChurn_6 : decode cX11_isChurn 6 = .ok (.getfield 123, 3) := by decide +kernel
theorem dX11_isChurn_9 : decode cX11_isChurn 9 = .ok (.iconst 1, 1) := by decide +kernel
theorem dX11_isChurn_10 : decode cX11_isChurn 10 = .ok (.isub, 1) := by decide +kernel
theorem dX11_isChurn_11 : decode cX11_isChurn 11 = .ok (.invokestatic 82, 3) := by decide +kernel
theorem dX11_isChurn_14 : decode cX11_isChurn 14 = .ok (.ifCond .eq 13, 3) := by decide +kernel
theorem dX11_isChurn_17 : decode cX11_isChurn 17 = .ok (.iload_n 1, 1) := by decide +kernel
theorem dX11_isChurn_18 : decode cX11_isChurn 18 = .ok (.bipush 6, 2) := by decide +kernel
theorem dX11_isChurn_20 : decode cX11_isChurn 20 = .ok (.if_icmp .ge 7, 3) := by decide +kernel
theorem dX11_isChurn_23 : decode cX11_isChurn 23 = .ok (.iconst 1, 1) := by decide +kernel
theorem dX11_isChurn_24 : decode cX11_isChurn 24 = .ok (.goto 4, 3) := by decide +kernel
theorem dX11_isChurn_27 : decode cX11_isChurn 27 = .ok (.iconst 0, 1) := by decide +kernel
theorem dX11_isChurn_28 : decode cX11_isChurn 28 = .ok (.ireturn, 1) := by decide +kernel
theorem dX11_stand_0 : decode cX11_stand 0 = .ok (.iload_n 3, 1) := by decide +kernel
theorem dX11_stand_1 : decode cX11_stand 1 = .ok (.ifCond .lt 33, 3) := by decide +kernel
theorem dX11_stand_4 : decode cX11_stand 4 = .ok (.iload_n 2, 1) := by decide +kernel
theorem dX11_stand_5 : decode cX11_stand 5 = .ok (.ifCond .lt 29, 3) := by decide +kernel
theorem dX11_stand_8 : decode cX11_stand 8 = .ok (.iload_n 3, 1) := by decide +kernel
theorem dX11_stand_9 : decode cX11_stand 9 = .ok (.aload_n 0, 1) := by decide +kernel
theorem dX11_stand_10 : decode cX11_stand 10 = .ok (.getfield 61, 3) := by decide +kernel
theorem dX11_stand_13 : decode cX11_stand 13 = .ok (.iload_n 1, 1) := by decide +kernel
theorem dX11_stand_14 : decode cX11_stand 14 = .ok (.iaload, 1) := by decide +kernel
theorem dX11_stand_15 : decode cX11_stand 15 = .ok (.if_icmp .gt 19, 3) := by decide +kernel
theorem dX11_stand_18 : decode cX11_stand 18 = .ok (.iload_n 2, 1) := by decide +kernel
theorem dX11_stand_19 : decode cX11_stand 19 = .ok (.aload_n 0, 1) := by decide +kernel
theorem dX11_stand_20 : decode cX11_stand 20 = .ok (.getfield 61, 3) := by decide +kernel
theorem dX11_stand_23 : decode cX11_stand 23 = .ok (.iload_n 1, 1) := by decide +kernel
theorem dX11_stand_24 : decode cX11_stand 24 = .ok (.iaload, 1) := by decide +kernel
theorem dX11_stand_25 : decode cX11_stand 25 = .ok (.iload_n 3, 1) := by decide +kernel
theorem dX11_stand_26 : decode cX11_stand 26 = .ok (.isub, 1) := by decide +kernel
theorem dX11_stand_27 : decode cX11_stand 27 = .ok (.if_icmp .gt 7, 3) := by decide +kernel
theorem dX11_stand_30 : decode cX11_stand 30 = .ok (.iconst 1, 1) := by decide +kernel
theorem dX11_stand_31 : decode cX11_stand 31 = .ok (.goto 4, 3) := by decide +kernel
theorem dX11_stand_34 : decode cX11_stand 34 = .ok (.iconst 0, 1) := by decide +kernel
theorem dX11_stand_35 : decode cX11_stand 35 = .ok (.ireturn, 1) := by decide +kernel
theorem dX11_whereItTurns_0 : decode cX11_whereItTurns 0 = .ok (.aload_n 0, 1) := by decide +kernel
theorem dX11_whereItTurns_1 : decode cX11_whereItTurns 1 = .ok (.getfield 72, 3) := by decide +kernel
theorem dX11_whereItTurns_4 : decode cX11_whereItTurns 4 = .ok (.getfield 105, 3) := by decide +kernel
theorem dX11_whereItTurns_7 : decode cX11_whereItTurns 7 = .ok (.istore_n 3, 1) := by decide +kernel
theorem dX11_whereItTurns_8 : decode cX11_whereItTurns 8 = .ok (.aload_n 1, 1) := by decide +kernel
theorem dX11_whereItTurns_9 : decode cX11_whereItTurns 9 = .ok (.getfield 169, 3) := by decide +kernel
theorem dX11_whereItTurns_12 : decode cX11_whereItTurns 12 = .ok (.istore 4, 2) := by decide +kernel
theorem dX11_whereItTurns_14 : decode cX11_whereItTurns 14 = .ok (.iload 4, 2) := by decide +kernel
theorem dX11_whereItTurns_16 : decode cX11_whereItTurns 16 = .ok (.bipush 9, 2) := by decide +kernel
theorem dX11_whereItTurns_18 : decode cX11_whereItTurns 18 = .ok (.if_icmp .ge 63, 3) := by decide +kernel
theorem dX11_whereItTurns_21 : decode cX11_whereItTurns 21 = .ok (.aload_n 0, 1) := by decide +kernel
theorem dX11_whereItTurns_22 : decode cX11_whereItTurns 22 = .ok (.getfield 72, 3) := by decide +kernel
theorem dX11_whereItTurns_25 : decode cX11_whereItTurns 25 = .ok (.aload_n 1, 1) := by decide +kernel
theorem dX11_whereItTurns_26 : decode cX11_whereItTurns 26 = .ok (.iload_n 2, 1) := by decide +kernel
theorem dX11_whereItTurns_27 : decode cX11_whereItTurns 27 = .ok (.invokevirtual 155, 3) := by decide +kernel
theorem dX11_whereItTurns_30 : decode cX11_whereItTurns 30 = .ok (.aload_n 1, 1) := by decide +kernel
theorem dX11_whereItTurns_31 : decode cX11_whereItTurns 31 = .ok (.getfield 159, 3) := by decide +kernel
theorem dX11_whereItTurns_34 : decode cX11_whereItTurns 34 = .ok (.istore 5, 2) := by decide +kernel
theorem dX11_whereItTurns_36 : decode cX11_whereItTurns 36 = .ok (.iconst 0, 1) := by decide +kernel
theorem dX11_whereItTurns_37 : decode cX11_whereItTurns 37 = .ok (.istore 6, 2) := by decide +kernel
theorem dX11_whereItTurns_39 : decode cX11_whereItTurns 39 = .ok (.iload 6, 2) := by decide +kernel
theorem dX11_whereItTurns_41 : decode cX11_whereItTurns 41 = .ok (.iload 5, 2) := by decide +kernel
theorem dX11_whereItTurns_43 : decode cX11_whereItTurns 43 = .ok (.if_icmp .ge 32, 3) := by decide +kernel
theorem dX11_whereItTurns_46 : decode cX11_whereItTurns 46 = .ok (.aload_n 0, 1) := by decide +kernel
theorem dX11_whereItTurns_47 : decode cX11_whereItTurns 47 = .ok (.getfield 72, 3) := by decide +kernel
theorem dX11_whereItTurns_50 : decode cX11_whereItTurns 50 = .ok (.aload_n 1, 1) := by decide +kernel
theorem dX11_whereItTurns_51 : decode cX11_whereItTurns 51 = .ok (.iload_n 3, 1) := by decide +kernel
theorem dX11_whereItTurns_52 : decode cX11_whereItTurns 52 = .ok (.invokevirtual 220, 3) := by decide +kernel
theorem dX11_whereItTurns_55 : decode cX11_whereItTurns 55 = .ok (.pop, 1) := by decide +kernel
theorem dX11_whereItTurns_56 : decode cX11_whereItTurns 56 = .ok (.iinc 3 1, 3) := by decide +kernel
theorem dX11_whereItTurns_59 : decode cX11_whereItTurns 59 = .ok (.aload_n 1, 1) := by decide +kernel
theorem dX11_whereItTurns_60 : decode cX11_whereItTurns 60 = .ok (.invokevirtual 297, 3) := by decide +kernel
theorem dX11_whereItTurns_63 : decode cX11_whereItTurns 63 = .ok (.ifCond .eq 6, 3) := by decide +kernel
theorem dX11_whereItTurns_66 : decode cX11_whereItTurns 66 = .ok (.iload 4, 2) := by decide +kernel
theorem dX11_whereItTurns_68 : decode cX11_whereItTurns 68 = .ok (.ireturn, 1) := by decide +kernel
theorem dX11_whereItTurns_69 : decode cX11_whereItTurns 69 = .ok (.iinc 6 1, 3) := by decide +kernel
theorem dX11_whereItTurns_72 : decode cX11_whereItTurns 72 = .ok (.goto (-33), 3) := by decide +kernel
theorem dX11_whereItTurns_75 : decode cX11_whereItTurns 75 = .ok (.iinc 4 1, 3) := by decide +kernel
theorem dX11_whereItTurns_78 : decode cX11_whereItTurns 78 = .ok (.goto (-64), 3) := by decide +kernel
theorem dX11_whereItTurns_81 : decode cX11_whereItTurns 81 = .ok (.iconst (-1), 1) := by decide +kernel
theorem dX11_whereItTurns_82 : decode cX11_whereItTurns 82 = .ok (.ireturn, 1) := by decide +kernel
theorem dX11_sourBehindNext_0 : decode cX11_sourBehindNext 0 = .ok (.iconst 0, 1) := by decide +kernel
theorem dX11_sourBehindNext_1 : decode cX11_sourBehindNext 1 = .ok (.istore_n 2, 1) := by decide +kernel
theorem dX11_sourBehindNext_2 : decode cX11_sourBehindNext 2 = .ok (.iconst 0, 1) := by decide +kernel
theorem dX11_sourBehindNext_3 : decode cX11_sourBehindNext 3 = .ok (.istore_n 3, 1) := by decide +kernel
theorem dX11_sourBehindNext_4 : decode cX11_sourBehindNext 4 = .ok (.iload_n 3, 1) := by decide +kernel
theorem dX11_sourBehindNext_5 : decode cX11_sourBehindNext 5 = .ok (.aload_n 0, 1) := by decide +kernel
theorem dX11_sourBehindNext_6 : decode cX11_sourBehindNext 6 = .ok (.getfield 72, 3) := by decide +kernel
theorem dX11_sourBehindNext_9 : decode cX11_sourBehindNext 9 = .ok (.getfield 123, 3) := by decide +kernel
theorem dX11_sourBehindNext_12 : decode cX11_sourBehindNext 12 = .ok (.if_icmp .ge 36, 3) := by decide +kernel
theorem dX11_sourBehindNext_15 : decode cX11_sourBehindNext 15 = .ok (.aload_n 0, 1) := by decide +kernel
theorem dX11_sourBehindNext_16 : decode cX11_sourBehindNext 16 = .ok (.getfield 72, 3) := by decide +kernel
theorem dX11_sourBehindNext_19 : decode cX11_sourBehindNext 19 = .ok (.aload_n 0, 1) := by decide +kernel
theorem dX11_sourBehindNext_20 : decode cX11_sourBehindNext 20 = .ok (.getfield 38, 3) := by decide +kernel
theorem dX11_sourBehindNext_23 : decode cX11_sourBehindNext 23 = .ok (.iload_n 3, 1) := by decide +kernel
theorem dX11_sourBehindNext_24 : decode cX11_sourBehindNext 24 = .ok (.aaload, 1) := by decide +kernel
theorem dX11_sourBehindNext_25 : decode cX11_sourBehindNext 25 = .ok (.iload_n 1, 1) := by decide +kernel
theorem dX11_sourBehindNext_26 : decode cX11_sourBehindNext 26 = .ok (.invokevirtual 220, 3) := by decide +kernel
theorem dX11_sourBehindNext_29 : decode cX11_sourBehindNext 29 = .ok (.pop, 1) := by decide +kernel
theorem dX11_sourBehindNext_30 : decode cX11_sourBehindNext 30 = .ok (.iload_n 2, 1) := by decide +kernel
theorem dX11_sourBehindNext_31 : decode cX11_sourBehindNext 31 = .ok (.aload_n 0, 1) := by decide +kernel
theorem dX11_sourBehindNext_32 : decode cX11_sourBehindNext 32 = .ok (.getfield 38, 3) := by decide +kernel
theorem dX11_sourBehindNext_35 : decode cX11_sourBehindNext 35 = .ok (.iload_n 3, 1) := by decide +kernel
theorem dX11_sourBehindNext_36 : decode cX11_sourBehindNext 36 = .ok (.aaload, 1) := by decide +kernel
theorem dX11_sourBehindNext_37 : decode cX11_sourBehindNext 37 = .ok (.getfield 256, 3) := by decide +kernel
theorem dX11_sourBehindNext_40 : decode cX11_sourBehindNext 40 = .ok (.iadd, 1) := by decide +kernel
theorem dX11_sourBehindNext_41 : decode cX11_sourBehindNext 41 = .ok (.istore_n 2, 1) := by decide +kernel
theorem dX11_sourBehindNext_42 : decode cX11_sourBehindNext 42 = .ok (.iinc 3 1, 3) := by decide +kernel
theorem dX11_sourBehindNext_45 : decode cX11_sourBehindNext 45 = .ok (.goto (-41), 3) := by decide +kernel
theorem dX11_sourBehindNext_48 : decode cX11_sourBehindNext 48 = .ok (.iload_n 2, 1) := by decide +kernel
theorem dX11_sourBehindNext_49 : decode cX11_sourBehindNext 49 = .ok (.ireturn, 1) := by decide +kernel
