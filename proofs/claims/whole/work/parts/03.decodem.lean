theorem d_Mo_init_0 : decode b_Mo_init 0 = .ok (.aload_n 0, 1) := by decide +kernel
theorem d_Mo_init_1 : decode b_Mo_init 1 = .ok (.invokespecial 1, 3) := by decide +kernel
theorem d_Mo_init_4 : decode b_Mo_init 4 = .ok (.aload_n 0, 1) := by decide +kernel
theorem d_Mo_init_5 : decode b_Mo_init 5 = .ok (.sipush 600, 3) := by decide +kernel
theorem d_Mo_init_8 : decode b_Mo_init 8 = .ok (.newarray .int, 2) := by decide +kernel
theorem d_Mo_init_10 : decode b_Mo_init 10 = .ok (.putfield 7, 3) := by decide +kernel
theorem d_Mo_init_13 : decode b_Mo_init 13 = .ok (.aload_n 0, 1) := by decide +kernel
theorem d_Mo_init_14 : decode b_Mo_init 14 = .ok (.sipush 4920, 3) := by decide +kernel
theorem d_Mo_init_17 : decode b_Mo_init 17 = .ok (.newarray .int, 2) := by decide +kernel
theorem d_Mo_init_19 : decode b_Mo_init 19 = .ok (.putfield 13, 3) := by decide +kernel
theorem d_Mo_init_22 : decode b_Mo_init 22 = .ok (.aload_n 0, 1) := by decide +kernel
theorem d_Mo_init_23 : decode b_Mo_init 23 = .ok (.sipush 492, 3) := by decide +kernel
theorem d_Mo_init_26 : decode b_Mo_init 26 = .ok (.newarray .boolean, 2) := by decide +kernel
theorem d_Mo_init_28 : decode b_Mo_init 28 = .ok (.putfield 16, 3) := by decide +kernel
theorem d_Mo_init_31 : decode b_Mo_init 31 = .ok (.aload_n 0, 1) := by decide +kernel
theorem d_Mo_init_32 : decode b_Mo_init 32 = .ok (.sipush 492, 3) := by decide +kernel
theorem d_Mo_init_35 : decode b_Mo_init 35 = .ok (.newarray .boolean, 2) := by decide +kernel
theorem d_Mo_init_37 : decode b_Mo_init 37 = .ok (.putfield 20, 3) := by decide +kernel
theorem d_Mo_init_40 : decode b_Mo_init 40 = .ok (.aload_n 0, 1) := by decide +kernel
theorem d_Mo_init_41 : decode b_Mo_init 41 = .ok (.sipush 600, 3) := by decide +kernel
theorem d_Mo_init_44 : decode b_Mo_init 44 = .ok (.newarray .int, 2) := by decide +kernel
theorem d_Mo_init_46 : decode b_Mo_init 46 = .ok (.putfield 23, 3) := by decide +kernel
theorem d_Mo_init_49 : decode b_Mo_init 49 = .ok (.aload_n 0, 1) := by decide +kernel
theorem d_Mo_init_50 : decode b_Mo_init 50 = .ok (.sipush 600, 3) := by decide +kernel
theorem d_Mo_init_53 : decode b_Mo_init 53 = .ok (.newarray .int, 2) := by decide +kernel
theorem d_Mo_init_55 : decode b_Mo_init 55 = .ok (.putfield 26, 3) := by decide +kernel
theorem d_Mo_init_58 : decode b_Mo_init 58 = .ok (.aload_n 0, 1) := by decide +kernel
theorem d_Mo_init_59 : decode b_Mo_init 59 = .ok (.bipush 61, 2) := by decide +kernel
theorem d_Mo_init_61 : decode b_Mo_init 61 = .ok (.newarray .int, 2) := by decide +kernel
theorem d_Mo_init_63 : decode b_Mo_init 63 = .ok (.putfield 29, 3) := by decide +kernel
theorem d_Mo_init_66 : decode b_Mo_init 66 = .ok (.aload_n 0, 1) := by decide +kernel
theorem d_Mo_init_67 : decode b_Mo_init 67 = .ok (.bipush 61, 2) := by decide +kernel
theorem d_Mo_init_69 : decode b_Mo_init 69 = .ok (.newarray .int, 2) := by decide +kernel
theorem d_Mo_init_71 : decode b_Mo_init 71 = .ok (.putfield 32, 3) := by decide +kernel
theorem d_Mo_init_74 : decode b_Mo_init 74 = .ok (.aload_n 0, 1) := by decide +kernel
theorem d_Mo_init_75 : decode b_Mo_init 75 = .ok (.bipush 41, 2) := by decide +kernel
theorem d_Mo_init_77 : decode b_Mo_init 77 = .ok (.newarray .boolean, 2) := by decide +kernel
theorem d_Mo_init_79 : decode b_Mo_init 79 = .ok (.putfield 35, 3) := by decide +kernel
theorem d_Mo_init_82 : decode b_Mo_init 82 = .ok (.aload_n 0, 1) := by decide +kernel
theorem d_Mo_init_83 : decode b_Mo_init 83 = .ok (.sipush 500, 3) := by decide +kernel
theorem d_Mo_init_86 : decode b_Mo_init 86 = .ok (.newarray .int, 2) := by decide +kernel
theorem d_Mo_init_88 : decode b_Mo_init 88 = .ok (.putfield 38, 3) := by decide +kernel
theorem d_Mo_init_91 : decode b_Mo_init 91 = .ok (.aload_n 0, 1) := by decide +kernel
theorem d_Mo_init_92 : decode b_Mo_init 92 = .ok (.sipush 2000, 3) := by decide +kernel
theorem d_Mo_init_95 : decode b_Mo_init 95 = .ok (.newarray .int, 2) := by decide +kernel
theorem d_Mo_init_97 : decode b_Mo_init 97 = .ok (.putfield 41, 3) := by decide +kernel
theorem d_Mo_init_100 : decode b_Mo_init 100 = .ok (.aload_n 0, 1) := by decide +kernel
theorem d_Mo_init_101 : decode b_Mo_init 101 = .ok (.iconst 0, 1) := by decide +kernel
theorem d_Mo_init_102 : decode b_Mo_init 102 = .ok (.putfield 44, 3) := by decide +kernel
theorem d_Mo_init_105 : decode b_Mo_init 105 = .ok (.return_, 1) := by decide +kernel
theorem d_Mo_sign_0 : decode b_Mo_sign 0 = .ok (.aload_n 0, 1) := by decide +kernel
theorem d_Mo_sign_1 : decode b_Mo_sign 1 = .ok (.iconst 0, 1) := by decide +kernel
theorem d_Mo_sign_2 : decode b_Mo_sign 2 = .ok (.putfield 48, 3) := by decide +kernel
theorem d_Mo_sign_5 : decode b_Mo_sign 5 = .ok (.aload_n 0, 1) := by decide +kernel
theorem d_Mo_sign_6 : decode b_Mo_sign 6 = .ok (.getfield 44, 3) := by decide +kernel
theorem d_Mo_sign_9 : decode b_Mo_sign 9 = .ok (.sipush 600, 3) := by decide +kernel
theorem d_Mo_sign_12 : decode b_Mo_sign 12 = .ok (.if_icmp .ge 35, 3) := by decide +kernel
theorem d_Mo_sign_15 : decode b_Mo_sign 15 = .ok (.iload_n 1, 1) := by decide +kernel
theorem d_Mo_sign_16 : decode b_Mo_sign 16 = .ok (.bipush 32, 2) := by decide +kernel
theorem d_Mo_sign_18 : decode b_Mo_sign 18 = .ok (.if_icmp .lt 29, 3) := by decide +kernel
theorem d_Mo_sign_21 : decode b_Mo_sign 21 = .ok (.iload_n 1, 1) := by decide +kernel
theorem d_Mo_sign_22 : decode b_Mo_sign 22 = .ok (.bipush 126, 2) := by decide +kernel
theorem d_Mo_sign_24 : decode b_Mo_sign 24 = .ok (.if_icmp .gt 23, 3) := by decide +kernel
theorem d_Mo_sign_27 : decode b_Mo_sign 27 = .ok (.aload_n 0, 1) := by decide +kernel
theorem d_Mo_sign_28 : decode b_Mo_sign 28 = .ok (.getfield 7, 3) := by decide +kernel
theorem d_Mo_sign_31 : decode b_Mo_sign 31 = .ok (.aload_n 0, 1) := by decide +kernel
theorem d_Mo_sign_32 : decode b_Mo_sign 32 = .ok (.getfield 44, 3) := by decide +kernel
theorem d_Mo_sign_35 : decode b_Mo_sign 35 = .ok (.iload_n 1, 1) := by decide +kernel
theorem d_Mo_sign_36 : decode b_Mo_sign 36 = .ok (.iastore, 1) := by decide +kernel
theorem d_Mo_sign_37 : decode b_Mo_sign 37 = .ok (.aload_n 0, 1) := by decide +kernel
theorem d_Mo_sign_38 : decode b_Mo_sign 38 = .ok (.dup, 1) := by decide +kernel
theorem d_Mo_sign_39 : decode b_Mo_sign 39 = .ok (.getfield 44, 3) := by decide +kernel
theorem d_Mo_sign_42 : decode b_Mo_sign 42 = .ok (.iconst 1, 1) := by decide +kernel
theorem d_Mo_sign_43 : decode b_Mo_sign 43 = .ok (.iadd, 1) := by decide +kernel
theorem d_Mo_sign_44 : decode b_Mo_sign 44 = .ok (.putfield 44, 3) := by decide +kernel
theorem d_Mo_sign_47 : decode b_Mo_sign 47 = .ok (.return_, 1) := by decide +kernel
theorem d_Mo_read_0 : decode b_Mo_read 0 = .ok (.aload_n 0, 1) := by decide +kernel
theorem d_Mo_read_1 : decode b_Mo_read 1 = .ok (.iconst 0, 1) := by decide +kernel
theorem d_Mo_read_2 : decode b_Mo_read 2 = .ok (.putfield 48, 3) := by decide +kernel
theorem d_Mo_read_5 : decode b_Mo_read 5 = .ok (.aload_n 0, 1) := by decide +kernel
theorem d_Mo_read_6 : decode b_Mo_read 6 = .ok (.iconst 0, 1) := by decide +kernel
theorem d_Mo_read_7 : decode b_Mo_read 7 = .ok (.putfield 51, 3) := by decide +kernel
theorem d_Mo_read_10 : decode b_Mo_read 10 = .ok (.aload_n 0, 1) := by decide +kernel
theorem d_Mo_read_11 : decode b_Mo_read 11 = .ok (.iconst (-1), 1) := by decide +kernel
theorem d_Mo_read_12 : decode b_Mo_read 12 = .ok (.putfield 54, 3) := by decide +kernel
theorem d_Mo_read_15 : decode b_Mo_read 15 = .ok (.aload_n 0, 1) := by decide +kernel
theorem d_Mo_read_16 : decode b_Mo_read 16 = .ok (.iconst 0, 1) := by decide +kernel
theorem d_Mo_read_17 : decode b_Mo_read 17 = .ok (.putfield 72, 3) := by decide +kernel
theorem d_Mo_read_20 : decode b_Mo_read 20 = .ok (.iconst 0, 1) := by decide +kernel
theorem d_Mo_read_21 : decode b_Mo_read 21 = .ok (.istore_n 1, 1) := by decide +kernel
theorem d_Mo_read_22 : decode b_Mo_read 22 = .ok (.iload_n 1, 1) := by decide +kernel
theorem d_Mo_read_23 : decode b_Mo_read 23 = .ok (.sipush 492, 3) := by decide +kernel
theorem d_Mo_read_26 : decode b_Mo_read 26 = .ok (.if_icmp .ge 27, 3) := by decide +kernel
theorem d_Mo_read_29 : decode b_Mo_read 29 = .ok (.aload_n 0, 1) := by decide +kernel
theorem d_Mo_read_30 : decode b_Mo_read 30 = .ok (.getfield 13, 3) := by decide +kernel
theorem d_Mo_read_33 : decode b_Mo_read 33 = .ok (.sipush 4428, 3) := by decide +kernel
theorem d_Mo_read_36 : decode b_Mo_read 36 = .ok (.iload_n 1, 1) := by decide +kernel
theorem d_Mo_read_37 : decode b_Mo_read 37 = .ok (.iadd, 1) := by decide +kernel
theorem d_Mo_read_38 : decode b_Mo_read 38 = .ok (.iconst 0, 1) := by decide +kernel
theorem d_Mo_read_39 : decode b_Mo_read 39 = .ok (.iastore, 1) := by decide +kernel
theorem d_Mo_read_40 : decode b_Mo_read 40 = .ok (.aload_n 0, 1) := by decide +kernel
theorem d_Mo_read_41 : decode b_Mo_read 41 = .ok (.getfield 20, 3) := by decide +kernel
theorem d_Mo_read_44 : decode b_Mo_read 44 = .ok (.iload_n 1, 1) := by decide +kernel
theorem d_Mo_read_45 : decode b_Mo_read 45 = .ok (.iconst 0, 1) := by decide +kernel
theorem d_Mo_read_46 : decode b_Mo_read 46 = .ok (.bastore, 1) := by decide +kernel
theorem d_Mo_read_47 : decode b_Mo_read 47 = .ok (.iinc 1 1, 3) := by decide +kernel
theorem d_Mo_read_50 : decode b_Mo_read 50 = .ok (.goto (-28), 3) := by decide +kernel
theorem d_Mo_read_53 : decode b_Mo_read 53 = .ok (.iconst 0, 1) := by decide +kernel
theorem d_Mo_read_54 : decode b_Mo_read 54 = .ok (.istore_n 1, 1) := by decide +kernel
theorem d_Mo_read_55 : decode b_Mo_read 55 = .ok (.iload_n 1, 1) := by decide +kernel
theorem d_Mo_read_56 : decode b_Mo_read 56 = .ok (.bipush 61, 2) := by decide +kernel
theorem d_Mo_read_58 : decode b_Mo_read 58 = .ok (.if_icmp .ge 16, 3) := by decide +kernel
theorem d_Mo_read_61 : decode b_Mo_read 61 = .ok (.aload_n 0, 1) := by decide +kernel
theorem d_Mo_read_62 : decode b_Mo_read 62 = .ok (.getfield 32, 3) := by decide +kernel
theorem d_Mo_read_65 : decode b_Mo_read 65 = .ok (.iload_n 1, 1) := by decide +kernel
theorem d_Mo_read_66 : decode b_Mo_read 66 = .ok (.iconst 0, 1) := by decide +kernel
theorem d_Mo_read_67 : decode b_Mo_read 67 = .ok (.iastore, 1) := by decide +kernel
theorem d_Mo_read_68 : decode b_Mo_read 68 = .ok (.iinc 1 1, 3) := by decide +kernel
theorem d_Mo_read_71 : decode b_Mo_read 71 = .ok (.goto (-16), 3) := by decide +kernel
theorem d_Mo_read_74 : decode b_Mo_read 74 = .ok (.aload_n 0, 1) := by decide +kernel
theorem d_Mo_read_75 : decode b_Mo_read 75 = .ok (.invokevirtual 88, 3) := by decide +kernel
theorem d_Mo_read_78 : decode b_Mo_read 78 = .ok (.istore_n 1, 1) := by decide +kernel
theorem d_Mo_read_79 : decode b_Mo_read 79 = .ok (.aload_n 0, 1) := by decide +kernel
theorem d_Mo_read_80 : decode b_Mo_read 80 = .ok (.getfield 54, 3) := by decide +kernel
theorem d_Mo_read_83 : decode b_Mo_read 83 = .ok (.ifCond .ge 20, 3) := by decide +kernel
theorem d_Mo_read_86 : decode b_Mo_read 86 = .ok (.aload_n 0, 1) := by decide +kernel
theorem d_Mo_read_87 : decode b_Mo_read 87 = .ok (.getfield 91, 3) := by decide +kernel
theorem d_Mo_read_90 : decode b_Mo_read 90 = .ok (.bipush 8, 2) := by decide +kernel
theorem d_Mo_read_92 : decode b_Mo_read 92 = .ok (.if_icmp .ne 11, 3) := by decide +kernel
theorem d_Mo_read_95 : decode b_Mo_read 95 = .ok (.aload_n 0, 1) := by decide +kernel
theorem d_Mo_read_96 : decode b_Mo_read 96 = .ok (.aload_n 0, 1) := by decide +kernel
theorem d_Mo_read_97 : decode b_Mo_read 97 = .ok (.getfield 44, 3) := by decide +kernel
theorem d_Mo_read_100 : decode b_Mo_read 100 = .ok (.putfield 54, 3) := by decide +kernel
theorem d_Mo_read_103 : decode b_Mo_read 103 = .ok (.aload_n 0, 1) := by decide +kernel
theorem d_Mo_read_104 : decode b_Mo_read 104 = .ok (.iconst 0, 1) := by decide +kernel
theorem d_Mo_read_105 : decode b_Mo_read 105 = .ok (.putfield 44, 3) := by decide +kernel
theorem d_Mo_read_108 : decode b_Mo_read 108 = .ok (.aload_n 0, 1) := by decide +kernel
theorem d_Mo_read_109 : decode b_Mo_read 109 = .ok (.getfield 54, 3) := by decide +kernel
theorem d_Mo_read_112 : decode b_Mo_read 112 = .ok (.ifCond .lt 10, 3) := by decide +kernel
theorem d_Mo_read_115 : decode b_Mo_read 115 = .ok (.iconst (-1), 1) := by decide +kernel
theorem d_Mo_read_116 : decode b_Mo_read 116 = .ok (.aload_n 0, 1) := by decide +kernel
theorem d_Mo_read_117 : decode b_Mo_read 117 = .ok (.getfield 54, 3) := by decide +kernel
theorem d_Mo_read_120 : decode b_Mo_read 120 = .ok (.isub, 1) := by decide +kernel
theorem d_Mo_read_121 : decode b_Mo_read 121 = .ok (.ireturn, 1) := by decide +kernel
theorem d_Mo_read_122 : decode b_Mo_read 122 = .ok (.iconst 0, 1) := by decide +kernel
theorem d_Mo_read_123 : decode b_Mo_read 123 = .ok (.istore_n 2, 1) := by decide +kernel
theorem d_Mo_read_124 : decode b_Mo_read 124 = .ok (.iload_n 2, 1) := by decide +kernel
theorem d_Mo_read_125 : decode b_Mo_read 125 = .ok (.sipush 492, 3) := by decide +kernel
theorem d_Mo_read_128 : decode b_Mo_read 128 = .ok (.if_icmp .ge 66, 3) := by decide +kernel
theorem d_Mo_read_131 : decode b_Mo_read 131 = .ok (.aload_n 0, 1) := by decide +kernel
theorem d_Mo_read_132 : decode b_Mo_read 132 = .ok (.getfield 13, 3) := by decide +kernel
theorem d_Mo_read_135 : decode b_Mo_read 135 = .ok (.sipush 492, 3) := by decide +kernel
theorem d_Mo_read_138 : decode b_Mo_read 138 = .ok (.aload_n 0, 1) := by decide +kernel
theorem d_Mo_read_139 : decode b_Mo_read 139 = .ok (.getfield 91, 3) := by decide +kernel
theorem d_Mo_read_142 : decode b_Mo_read 142 = .ok (.imul, 1) := by decide +kernel
theorem d_Mo_read_143 : decode b_Mo_read 143 = .ok (.iload_n 2, 1) := by decide +kernel
theorem d_Mo_read_144 : decode b_Mo_read 144 = .ok (.iadd, 1) := by decide +kernel
theorem d_Mo_read_145 : decode b_Mo_read 145 = .ok (.aload_n 0, 1) := by decide +kernel
theorem d_Mo_read_146 : decode b_Mo_read 146 = .ok (.getfield 13, 3) := by decide +kernel
theorem d_Mo_read_149 : decode b_Mo_read 149 = .ok (.sipush 4428, 3) := by decide +kernel
theorem d_Mo_read_152 : decode b_Mo_read 152 = .ok (.iload_n 2, 1) := by decide +kernel
theorem d_Mo_read_153 : decode b_Mo_read 153 = .ok (.iadd, 1) := by decide +kernel
theorem d_Mo_read_154 : decode b_Mo_read 154 = .ok (.iaload, 1) := by decide +kernel
theorem d_Mo_read_155 : decode b_Mo_read 155 = .ok (.iastore, 1) := by decide +kernel
theorem d_Mo_read_156 : decode b_Mo_read 156 = .ok (.aload_n 0, 1) := by decide +kernel
theorem d_Mo_read_157 : decode b_Mo_read 157 = .ok (.getfield 13, 3) := by decide +kernel
theorem d_Mo_read_160 : decode b_Mo_read 160 = .ok (.sipush 3936, 3) := by decide +kernel
theorem d_Mo_read_163 : decode b_Mo_read 163 = .ok (.iload_n 2, 1) := by decide +kernel
theorem d_Mo_read_164 : decode b_Mo_read 164 = .ok (.iadd, 1) := by decide +kernel
theorem d_Mo_read_165 : decode b_Mo_read 165 = .ok (.aload_n 0, 1) := by decide +kernel
theorem d_Mo_read_166 : decode b_Mo_read 166 = .ok (.getfield 13, 3) := by decide +kernel
theorem d_Mo_read_169 : decode b_Mo_read 169 = .ok (.sipush 4428, 3) := by decide +kernel
theorem d_Mo_read_172 : decode b_Mo_read 172 = .ok (.iload_n 2, 1) := by decide +kernel
theorem d_Mo_read_173 : decode b_Mo_read 173 = .ok (.iadd, 1) := by decide +kernel
theorem d_Mo_read_174 : decode b_Mo_read 174 = .ok (.iaload, 1) := by decide +kernel
theorem d_Mo_read_175 : decode b_Mo_read 175 = .ok (.iastore, 1) := by decide +kernel
theorem d_Mo_read_176 : decode b_Mo_read 176 = .ok (.aload_n 0, 1) := by decide +kernel
theorem d_Mo_read_177 : decode b_Mo_read 177 = .ok (.getfield 16, 3) := by decide +kernel
theorem d_Mo_read_180 : decode b_Mo_read 180 = .ok (.iload_n 2, 1) := by decide +kernel
theorem d_Mo_read_181 : decode b_Mo_read 181 = .ok (.aload_n 0, 1) := by decide +kernel
theorem d_Mo_read_182 : decode b_Mo_read 182 = .ok (.getfield 20, 3) := by decide +kernel
theorem d_Mo_read_185 : decode b_Mo_read 185 = .ok (.iload_n 2, 1) := by decide +kernel
theorem d_Mo_read_186 : decode b_Mo_read 186 = .ok (.baload, 1) := by decide +kernel
theorem d_Mo_read_187 : decode b_Mo_read 187 = .ok (.bastore, 1) := by decide +kernel
theorem d_Mo_read_188 : decode b_Mo_read 188 = .ok (.iinc 2 1, 3) := by decide +kernel
theorem d_Mo_read_191 : decode b_Mo_read 191 = .ok (.goto (-67), 3) := by decide +kernel
theorem d_Mo_read_194 : decode b_Mo_read 194 = .ok (.aload_n 0, 1) := by decide +kernel
theorem d_Mo_read_195 : decode b_Mo_read 195 = .ok (.aload_n 0, 1) := by decide +kernel
theorem d_Mo_read_196 : decode b_Mo_read 196 = .ok (.getfield 72, 3) := by decide +kernel
theorem d_Mo_read_199 : decode b_Mo_read 199 = .ok (.putfield 94, 3) := by decide +kernel
theorem d_Mo_read_202 : decode b_Mo_read 202 = .ok (.iconst 0, 1) := by decide +kernel
theorem d_Mo_read_203 : decode b_Mo_read 203 = .ok (.istore_n 2, 1) := by decide +kernel
theorem d_Mo_read_204 : decode b_Mo_read 204 = .ok (.iload_n 2, 1) := by decide +kernel
theorem d_Mo_read_205 : decode b_Mo_read 205 = .ok (.iconst 4, 1) := by decide +kernel
theorem d_Mo_read_206 : decode b_Mo_read 206 = .ok (.aload_n 0, 1) := by decide +kernel
theorem d_Mo_read_207 : decode b_Mo_read 207 = .ok (.getfield 94, 3) := by decide +kernel
theorem d_Mo_read_210 : decode b_Mo_read 210 = .ok (.imul, 1) := by decide +kernel
theorem d_Mo_read_211 : decode b_Mo_read 211 = .ok (.if_icmp .ge 21, 3) := by decide +kernel
theorem d_Mo_read_214 : decode b_Mo_read 214 = .ok (.aload_n 0, 1) := by decide +kernel
theorem d_Mo_read_215 : decode b_Mo_read 215 = .ok (.getfield 23, 3) := by decide +kernel
theorem d_Mo_read_218 : decode b_Mo_read 218 = .ok (.iload_n 2, 1) := by decide +kernel
theorem d_Mo_read_219 : decode b_Mo_read 219 = .ok (.aload_n 0, 1) := by decide +kernel
theorem d_Mo_read_220 : decode b_Mo_read 220 = .ok (.getfield 26, 3) := by decide +kernel
theorem d_Mo_read_223 : decode b_Mo_read 223 = .ok (.iload_n 2, 1) := by decide +kernel
theorem d_Mo_read_224 : decode b_Mo_read 224 = .ok (.iaload, 1) := by decide +kernel
theorem d_Mo_read_225 : decode b_Mo_read 225 = .ok (.iastore, 1) := by decide +kernel
theorem d_Mo_read_226 : decode b_Mo_read 226 = .ok (.iinc 2 1, 3) := by decide +kernel
theorem d_Mo_read_229 : decode b_Mo_read 229 = .ok (.goto (-25), 3) := by decide +kernel
theorem d_Mo_read_232 : decode b_Mo_read 232 = .ok (.iconst 0, 1) := by decide +kernel
theorem d_Mo_read_233 : decode b_Mo_read 233 = .ok (.istore_n 2, 1) := by decide +kernel
theorem d_Mo_read_234 : decode b_Mo_read 234 = .ok (.iload_n 2, 1) := by decide +kernel
theorem d_Mo_read_235 : decode b_Mo_read 235 = .ok (.bipush 61, 2) := by decide +kernel
theorem d_Mo_read_237 : decode b_Mo_read 237 = .ok (.if_icmp .ge 21, 3) := by decide +kernel
theorem d_Mo_read_240 : decode b_Mo_read 240 = .ok (.aload_n 0, 1) := by decide +kernel
theorem d_Mo_read_241 : decode b_Mo_read 241 = .ok (.getfield 29, 3) := by decide +kernel
theorem d_Mo_read_244 : decode b_Mo_read 244 = .ok (.iload_n 2, 1) := by decide +kernel
theorem d_Mo_read_245 : decode b_Mo_read 245 = .ok (.aload_n 0, 1) := by decide +kernel
theorem d_Mo_read_246 : decode b_Mo_read 246 = .ok (.getfield 32, 3) := by decide +kernel
theorem d_Mo_read_249 : decode b_Mo_read 249 = .ok (.iload_n 2, 1) := by decide +kernel
theorem d_Mo_read_250 : decode b_Mo_read 250 = .ok (.iaload, 1) := by decide +kernel
theorem d_Mo_read_251 : decode b_Mo_read 251 = .ok (.iastore, 1) := by decide +kernel
theorem d_Mo_read_252 : decode b_Mo_read 252 = .ok (.iinc 2 1, 3) := by decide +kernel
theorem d_Mo_read_255 : decode b_Mo_read 255 = .ok (.goto (-21), 3) := by decide +kernel
theorem d_Mo_read_258 : decode b_Mo_read 258 = .ok (.iconst 0, 1) := by decide +kernel
theorem d_Mo_read_259 : decode b_Mo_read 259 = .ok (.istore_n 2, 1) := by decide +kernel
theorem d_Mo_read_260 : decode b_Mo_read 260 = .ok (.iload_n 2, 1) := by decide +kernel
theorem d_Mo_read_261 : decode b_Mo_read 261 = .ok (.bipush 41, 2) := by decide +kernel
theorem d_Mo_read_263 : decode b_Mo_read 263 = .ok (.if_icmp .ge 16, 3) := by decide +kernel
theorem d_Mo_read_266 : decode b_Mo_read 266 = .ok (.aload_n 0, 1) := by decide +kernel
theorem d_Mo_read_267 : decode b_Mo_read 267 = .ok (.getfield 35, 3) := by decide +kernel
theorem d_Mo_read_270 : decode b_Mo_read 270 = .ok (.iload_n 2, 1) := by decide +kernel
theorem d_Mo_read_271 : decode b_Mo_read 271 = .ok (.iconst 0, 1) := by decide +kernel
theorem d_Mo_read_272 : decode b_Mo_read 272 = .ok (.bastore, 1) := by decide +kernel
theorem d_Mo_read_273 : decode b_Mo_read 273 = .ok (.iinc 2 1, 3) := by decide +kernel
theorem d_Mo_read_276 : decode b_Mo_read 276 = .ok (.goto (-16), 3) := by decide +kernel
theorem d_Mo_read_279 : decode b_Mo_read 279 = .ok (.aload_n 0, 1) := by decide +kernel
theorem d_Mo_read_280 : decode b_Mo_read 280 = .ok (.dup, 1) := by decide +kernel
theorem d_Mo_read_281 : decode b_Mo_read 281 = .ok (.getfield 91, 3) := by decide +kernel
theorem d_Mo_read_284 : decode b_Mo_read 284 = .ok (.iconst 1, 1) := by decide +kernel
theorem d_Mo_read_285 : decode b_Mo_read 285 = .ok (.iadd, 1) := by decide +kernel
theorem d_Mo_read_286 : decode b_Mo_read 286 = .ok (.putfield 91, 3) := by decide +kernel
theorem d_Mo_read_289 : decode b_Mo_read 289 = .ok (.iload_n 1, 1) := by decide +kernel
theorem d_Mo_read_290 : decode b_Mo_read 290 = .ok (.ireturn, 1) := by decide +kernel
theorem d_Mo_readAll_0 : decode b_Mo_readAll 0 = .ok (.iconst 0, 1) := by decide +kernel
theorem d_Mo_readAll_1 : decode b_Mo_readAll 1 = .ok (.istore_n 1, 1) := by decide +kernel
theorem d_Mo_readAll_2 : decode b_Mo_readAll 2 = .ok (.aload_n 0, 1) := by decide +kernel
theorem d_Mo_readAll_3 : decode b_Mo_readAll 3 = .ok (.getfield 54, 3) := by decide +kernel
theorem d_Mo_readAll_6 : decode b_Mo_readAll 6 = .ok (.ifCond .ge 86, 3) := by decide +kernel
theorem d_Mo_readAll_9 : decode b_Mo_readAll 9 = .ok (.aload_n 0, 1) := by decide +kernel
theorem d_Mo_readAll_10 : decode b_Mo_readAll 10 = .ok (.getfield 51, 3) := by decide +kernel
theorem d_Mo_readAll_13 : decode b_Mo_readAll 13 = .ok (.aload_n 0, 1) := by decide +kernel
theorem d_Mo_readAll_14 : decode b_Mo_readAll 14 = .ok (.getfield 44, 3) := by decide +kernel
theorem d_Mo_readAll_17 : decode b_Mo_readAll 17 = .ok (.if_icmp .ge 75, 3) := by decide +kernel
theorem d_Mo_readAll_20 : decode b_Mo_readAll 20 = .ok (.aload_n 0, 1) := by decide +kernel
theorem d_Mo_readAll_21 : decode b_Mo_readAll 21 = .ok (.getfield 51, 3) := by decide +kernel
theorem d_Mo_readAll_24 : decode b_Mo_readAll 24 = .ok (.istore_n 2, 1) := by decide +kernel
theorem d_Mo_readAll_25 : decode b_Mo_readAll 25 = .ok (.aload_n 0, 1) := by decide +kernel
theorem d_Mo_readAll_26 : decode b_Mo_readAll 26 = .ok (.invokevirtual 57, 3) := by decide +kernel
theorem d_Mo_readAll_29 : decode b_Mo_readAll 29 = .ok (.istore_n 3, 1) := by decide +kernel
theorem d_Mo_readAll_30 : decode b_Mo_readAll 30 = .ok (.aload_n 0, 1) := by decide +kernel
theorem d_Mo_readAll_31 : decode b_Mo_readAll 31 = .ok (.dup, 1) := by decide +kernel
theorem d_Mo_readAll_32 : decode b_Mo_readAll 32 = .ok (.getfield 51, 3) := by decide +kernel
theorem d_Mo_readAll_35 : decode b_Mo_readAll 35 = .ok (.iconst 1, 1) := by decide +kernel
theorem d_Mo_readAll_36 : decode b_Mo_readAll 36 = .ok (.iadd, 1) := by decide +kernel
theorem d_Mo_readAll_37 : decode b_Mo_readAll 37 = .ok (.putfield 51, 3) := by decide +kernel
theorem d_Mo_readAll_40 : decode b_Mo_readAll 40 = .ok (.iload_n 3, 1) := by decide +kernel
theorem d_Mo_readAll_41 : decode b_Mo_readAll 41 = .ok (.bipush 84, 2) := by decide +kernel
theorem d_Mo_readAll_43 : decode b_Mo_readAll 43 = .ok (.if_icmp .ne 10, 3) := by decide +kernel
theorem d_Mo_readAll_46 : decode b_Mo_readAll 46 = .ok (.aload_n 0, 1) := by decide +kernel
theorem d_Mo_readAll_47 : decode b_Mo_readAll 47 = .ok (.invokevirtual 79, 3) := by decide +kernel
theorem d_Mo_readAll_50 : decode b_Mo_readAll 50 = .ok (.goto 36, 3) := by decide +kernel
theorem d_Mo_readAll_53 : decode b_Mo_readAll 53 = .ok (.iload_n 3, 1) := by decide +kernel
theorem d_Mo_readAll_54 : decode b_Mo_readAll 54 = .ok (.bipush 66, 2) := by decide +kernel
theorem d_Mo_readAll_56 : decode b_Mo_readAll 56 = .ok (.if_icmp .ne 11, 3) := by decide +kernel
theorem d_Mo_readAll_59 : decode b_Mo_readAll 59 = .ok (.aload_n 0, 1) := by decide +kernel
theorem d_Mo_readAll_60 : decode b_Mo_readAll 60 = .ok (.iload_n 2, 1) := by decide +kernel
theorem d_Mo_readAll_61 : decode b_Mo_readAll 61 = .ok (.invokevirtual 82, 3) := by decide +kernel
theorem d_Mo_readAll_64 : decode b_Mo_readAll 64 = .ok (.goto 22, 3) := by decide +kernel
theorem d_Mo_readAll_67 : decode b_Mo_readAll 67 = .ok (.iload_n 3, 1) := by decide +kernel
theorem d_Mo_readAll_68 : decode b_Mo_readAll 68 = .ok (.bipush 79, 2) := by decide +kernel
theorem d_Mo_readAll_70 : decode b_Mo_readAll 70 = .ok (.if_icmp .ne 11, 3) := by decide +kernel
theorem d_Mo_readAll_73 : decode b_Mo_readAll 73 = .ok (.aload_n 0, 1) := by decide +kernel
theorem d_Mo_readAll_74 : decode b_Mo_readAll 74 = .ok (.iload_n 2, 1) := by decide +kernel
theorem d_Mo_readAll_75 : decode b_Mo_readAll 75 = .ok (.invokevirtual 85, 3) := by decide +kernel
theorem d_Mo_readAll_78 : decode b_Mo_readAll 78 = .ok (.goto 8, 3) := by decide +kernel
theorem d_Mo_readAll_81 : decode b_Mo_readAll 81 = .ok (.aload_n 0, 1) := by decide +kernel
theorem d_Mo_readAll_82 : decode b_Mo_readAll 82 = .ok (.iload_n 2, 1) := by decide +kernel
theorem d_Mo_readAll_83 : decode b_Mo_readAll 83 = .ok (.invokevirtual 61, 3) := by decide +kernel
theorem d_Mo_readAll_86 : decode b_Mo_readAll 86 = .ok (.iinc 1 1, 3) := by decide +kernel
theorem d_Mo_readAll_89 : decode b_Mo_readAll 89 = .ok (.goto (-87), 3) := by decide +kernel
theorem d_Mo_readAll_92 : decode b_Mo_readAll 92 = .ok (.iload_n 1, 1) := by decide +kernel
theorem d_Mo_readAll_93 : decode b_Mo_readAll 93 = .ok (.ireturn, 1) := by decide +kernel
theorem d_Mo_look_0 : decode b_Mo_look 0 = .ok (.aload_n 0, 1) := by decide +kernel
theorem d_Mo_look_1 : decode b_Mo_look 1 = .ok (.getfield 51, 3) := by decide +kernel
theorem d_Mo_look_4 : decode b_Mo_look 4 = .ok (.aload_n 0, 1) := by decide +kernel
theorem d_Mo_look_5 : decode b_Mo_look 5 = .ok (.getfield 44, 3) := by decide +kernel
theorem d_Mo_look_8 : decode b_Mo_look 8 = .ok (.if_icmp .ge 15, 3) := by decide +kernel
theorem d_Mo_look_11 : decode b_Mo_look 11 = .ok (.aload_n 0, 1) := by decide +kernel
theorem d_Mo_look_12 : decode b_Mo_look 12 = .ok (.getfield 7, 3) := by decide +kernel
theorem d_Mo_look_15 : decode b_Mo_look 15 = .ok (.aload_n 0, 1) := by decide +kernel
theorem d_Mo_look_16 : decode b_Mo_look 16 = .ok (.getfield 51, 3) := by decide +kernel
theorem d_Mo_look_19 : decode b_Mo_look 19 = .ok (.iaload, 1) := by decide +kernel
theorem d_Mo_look_20 : decode b_Mo_look 20 = .ok (.goto 4, 3) := by decide +kernel
theorem d_Mo_look_23 : decode b_Mo_look 23 = .ok (.iconst (-1), 1) := by decide +kernel
theorem d_Mo_look_24 : decode b_Mo_look 24 = .ok (.ireturn, 1) := by decide +kernel
theorem d_Mo_readTarget_0 : decode b_Mo_readTarget 0 = .ok (.aload_n 0, 1) := by decide +kernel
theorem d_Mo_readTarget_1 : decode b_Mo_readTarget 1 = .ok (.iconst 1, 1) := by decide +kernel
theorem d_Mo_readTarget_2 : decode b_Mo_readTarget 2 = .ok (.bipush 40, 2) := by decide +kernel
theorem d_Mo_readTarget_4 : decode b_Mo_readTarget 4 = .ok (.bipush 44, 2) := by decide +kernel
theorem d_Mo_readTarget_6 : decode b_Mo_readTarget 6 = .ok (.invokevirtual 68, 3) := by decide +kernel
theorem d_Mo_readTarget_9 : decode b_Mo_readTarget 9 = .ok (.istore_n 1, 1) := by decide +kernel
theorem d_Mo_readTarget_10 : decode b_Mo_readTarget 10 = .ok (.aload_n 0, 1) := by decide +kernel
theorem d_Mo_readTarget_11 : decode b_Mo_readTarget 11 = .ok (.iconst 0, 1) := by decide +kernel
theorem d_Mo_readTarget_12 : decode b_Mo_readTarget 12 = .ok (.sipush 9999, 3) := by decide +kernel
theorem d_Mo_readTarget_15 : decode b_Mo_readTarget 15 = .ok (.bipush 45, 2) := by decide +kernel
theorem d_Mo_readTarget_17 : decode b_Mo_readTarget 17 = .ok (.invokevirtual 68, 3) := by decide +kernel
theorem d_Mo_readTarget_20 : decode b_Mo_readTarget 20 = .ok (.istore_n 2, 1) := by decide +kernel
theorem d_Mo_readTarget_21 : decode b_Mo_readTarget 21 = .ok (.aload_n 0, 1) := by decide +kernel
theorem d_Mo_readTarget_22 : decode b_Mo_readTarget 22 = .ok (.iload_n 2, 1) := by decide +kernel
theorem d_Mo_readTarget_23 : decode b_Mo_readTarget 23 = .ok (.sipush 9999, 3) := by decide +kernel
theorem d_Mo_readTarget_26 : decode b_Mo_readTarget 26 = .ok (.bipush 44, 2) := by decide +kernel
theorem d_Mo_readTarget_28 : decode b_Mo_readTarget 28 = .ok (.invokevirtual 68, 3) := by decide +kernel
theorem d_Mo_readTarget_31 : decode b_Mo_readTarget 31 = .ok (.istore_n 3, 1) := by decide +kernel
theorem d_Mo_readTarget_32 : decode b_Mo_readTarget 32 = .ok (.aload_n 0, 1) := by decide +kernel
theorem d_Mo_readTarget_33 : decode b_Mo_readTarget 33 = .ok (.iconst 0, 1) := by decide +kernel
theorem d_Mo_readTarget_34 : decode b_Mo_readTarget 34 = .ok (.bipush 9, 2) := by decide +kernel
theorem d_Mo_readTarget_36 : decode b_Mo_readTarget 36 = .ok (.bipush 59, 2) := by decide +kernel
theorem d_Mo_readTarget_38 : decode b_Mo_readTarget 38 = .ok (.invokevirtual 68, 3) := by decide +kernel
theorem d_Mo_readTarget_41 : decode b_Mo_readTarget 41 = .ok (.istore 4, 2) := by decide +kernel
theorem d_Mo_readTarget_43 : decode b_Mo_readTarget 43 = .ok (.aload_n 0, 1) := by decide +kernel
theorem d_Mo_readTarget_44 : decode b_Mo_readTarget 44 = .ok (.getfield 54, 3) := by decide +kernel
theorem d_Mo_readTarget_47 : decode b_Mo_readTarget 47 = .ok (.ifCond .ge 68, 3) := by decide +kernel
theorem d_Mo_readTarget_50 : decode b_Mo_readTarget 50 = .ok (.aload_n 0, 1) := by decide +kernel
theorem d_Mo_readTarget_51 : decode b_Mo_readTarget 51 = .ok (.getfield 26, 3) := by decide +kernel
theorem d_Mo_readTarget_54 : decode b_Mo_readTarget 54 = .ok (.iconst 4, 1) := by decide +kernel
theorem d_Mo_readTarget_55 : decode b_Mo_readTarget 55 = .ok (.aload_n 0, 1) := by decide +kernel
theorem d_Mo_readTarget_56 : decode b_Mo_readTarget 56 = .ok (.getfield 72, 3) := by decide +kernel
theorem d_Mo_readTarget_59 : decode b_Mo_readTarget 59 = .ok (.imul, 1) := by decide +kernel
theorem d_Mo_readTarget_60 : decode b_Mo_readTarget 60 = .ok (.iload_n 1, 1) := by decide +kernel
theorem d_Mo_readTarget_61 : decode b_Mo_readTarget 61 = .ok (.iastore, 1) := by decide +kernel
theorem d_Mo_readTarget_62 : decode b_Mo_readTarget 62 = .ok (.aload_n 0, 1) := by decide +kernel
theorem d_Mo_readTarget_63 : decode b_Mo_readTarget 63 = .ok (.getfield 26, 3) := by decide +kernel
theorem d_Mo_readTarget_66 : decode b_Mo_readTarget 66 = .ok (.iconst 4, 1) := by decide +kernel
theorem d_Mo_readTarget_67 : decode b_Mo_readTarget 67 = .ok (.aload_n 0, 1) := by decide +kernel
theorem d_Mo_readTarget_68 : decode b_Mo_readTarget 68 = .ok (.getfield 72, 3) := by decide +kernel
theorem d_Mo_readTarget_71 : decode b_Mo_readTarget 71 = .ok (.imul, 1) := by decide +kernel
theorem d_Mo_readTarget_72 : decode b_Mo_readTarget 72 = .ok (.iconst 1, 1) := by decide +kernel
theorem d_Mo_readTarget_73 : decode b_Mo_readTarget 73 = .ok (.iadd, 1) := by decide +kernel
theorem d_Mo_readTarget_74 : decode b_Mo_readTarget 74 = .ok (.iload_n 2, 1) := by decide +kernel
theorem d_Mo_readTarget_75 : decode b_Mo_readTarget 75 = .ok (.iastore, 1) := by decide +kernel
theorem d_Mo_readTarget_76 : decode b_Mo_readTarget 76 = .ok (.aload_n 0, 1) := by decide +kernel
theorem d_Mo_readTarget_77 : decode b_Mo_readTarget 77 = .ok (.getfield 26, 3) := by decide +kernel
theorem d_Mo_readTarget_80 : decode b_Mo_readTarget 80 = .ok (.iconst 4, 1) := by decide +kernel
theorem d_Mo_readTarget_81 : decode b_Mo_readTarget 81 = .ok (.aload_n 0, 1) := by decide +kernel
theorem d_Mo_readTarget_82 : decode b_Mo_readTarget 82 = .ok (.getfield 72, 3) := by decide +kernel
theorem d_Mo_readTarget_85 : decode b_Mo_readTarget 85 = .ok (.imul, 1) := by decide +kernel
theorem d_Mo_readTarget_86 : decode b_Mo_readTarget 86 = .ok (.iconst 2, 1) := by decide +kernel
theorem d_Mo_readTarget_87 : decode b_Mo_readTarget 87 = .ok (.iadd, 1) := by decide +kernel
theorem d_Mo_readTarget_88 : decode b_Mo_readTarget 88 = .ok (.iload_n 3, 1) := by decide +kernel
theorem d_Mo_readTarget_89 : decode b_Mo_readTarget 89 = .ok (.iastore, 1) := by decide +kernel
theorem d_Mo_readTarget_90 : decode b_Mo_readTarget 90 = .ok (.aload_n 0, 1) := by decide +kernel
theorem d_Mo_readTarget_91 : decode b_Mo_readTarget 91 = .ok (.getfield 26, 3) := by decide +kernel
theorem d_Mo_readTarget_94 : decode b_Mo_readTarget 94 = .ok (.iconst 4, 1) := by decide +kernel
theorem d_Mo_readTarget_95 : decode b_Mo_readTarget 95 = .ok (.aload_n 0, 1) := by decide +kernel
theorem d_Mo_readTarget_96 : decode b_Mo_readTarget 96 = .ok (.getfield 72, 3) := by decide +kernel
theorem d_Mo_readTarget_99 : decode b_Mo_readTarget 99 = .ok (.imul, 1) := by decide +kernel
theorem d_Mo_readTarget_100 : decode b_Mo_readTarget 100 = .ok (.iconst 3, 1) := by decide +kernel
theorem d_Mo_readTarget_101 : decode b_Mo_readTarget 101 = .ok (.iadd, 1) := by decide +kernel
theorem d_Mo_readTarget_102 : decode b_Mo_readTarget 102 = .ok (.iload 4, 2) := by decide +kernel
theorem d_Mo_readTarget_104 : decode b_Mo_readTarget 104 = .ok (.iastore, 1) := by decide +kernel
theorem d_Mo_readTarget_105 : decode b_Mo_readTarget 105 = .ok (.aload_n 0, 1) := by decide +kernel
theorem d_Mo_readTarget_106 : decode b_Mo_readTarget 106 = .ok (.dup, 1) := by decide +kernel
theorem d_Mo_readTarget_107 : decode b_Mo_readTarget 107 = .ok (.getfield 72, 3) := by decide +kernel
theorem d_Mo_readTarget_110 : decode b_Mo_readTarget 110 = .ok (.iconst 1, 1) := by decide +kernel
theorem d_Mo_readTarget_111 : decode b_Mo_readTarget 111 = .ok (.iadd, 1) := by decide +kernel
theorem d_Mo_readTarget_112 : decode b_Mo_readTarget 112 = .ok (.putfield 72, 3) := by decide +kernel
theorem d_Mo_readTarget_115 : decode b_Mo_readTarget 115 = .ok (.return_, 1) := by decide +kernel
theorem d_Mo_number_0 : decode b_Mo_number 0 = .ok (.aload_n 0, 1) := by decide +kernel
theorem d_Mo_number_1 : decode b_Mo_number 1 = .ok (.getfield 54, 3) := by decide +kernel
theorem d_Mo_number_4 : decode b_Mo_number 4 = .ok (.ifCond .lt 5, 3) := by decide +kernel
theorem d_Mo_number_7 : decode b_Mo_number 7 = .ok (.iconst (-1), 1) := by decide +kernel
theorem d_Mo_number_8 : decode b_Mo_number 8 = .ok (.ireturn, 1) := by decide +kernel
theorem d_Mo_number_9 : decode b_Mo_number 9 = .ok (.aload_n 0, 1) := by decide +kernel
theorem d_Mo_number_10 : decode b_Mo_number 10 = .ok (.getfield 51, 3) := by decide +kernel
theorem d_Mo_number_13 : decode b_Mo_number 13 = .ok (.istore 4, 2) := by decide +kernel
theorem d_Mo_number_15 : decode b_Mo_number 15 = .ok (.iconst 0, 1) := by decide +kernel
theorem d_Mo_number_16 : decode b_Mo_number 16 = .ok (.istore 5, 2) := by decide +kernel
theorem d_Mo_number_18 : decode b_Mo_number 18 = .ok (.aload_n 0, 1) := by decide +kernel
theorem d_Mo_number_19 : decode b_Mo_number 19 = .ok (.invokevirtual 57, 3) := by decide +kernel
theorem d_Mo_number_22 : decode b_Mo_number 22 = .ok (.bipush 48, 2) := by decide +kernel
theorem d_Mo_number_24 : decode b_Mo_number 24 = .ok (.if_icmp .lt 51, 3) := by decide +kernel
theorem d_Mo_number_27 : decode b_Mo_number 27 = .ok (.aload_n 0, 1) := by decide +kernel
theorem d_Mo_number_28 : decode b_Mo_number 28 = .ok (.invokevirtual 57, 3) := by decide +kernel
theorem d_Mo_number_31 : decode b_Mo_number 31 = .ok (.bipush 57, 2) := by decide +kernel
theorem d_Mo_number_33 : decode b_Mo_number 33 = .ok (.if_icmp .gt 42, 3) := by decide +kernel
theorem d_Mo_number_36 : decode b_Mo_number 36 = .ok (.aload_n 0, 1) := by decide +kernel
theorem d_Mo_number_37 : decode b_Mo_number 37 = .ok (.getfield 51, 3) := by decide +kernel
theorem d_Mo_number_40 : decode b_Mo_number 40 = .ok (.iload 4, 2) := by decide +kernel
theorem d_Mo_number_42 : decode b_Mo_number 42 = .ok (.isub, 1) := by decide +kernel
theorem d_Mo_number_43 : decode b_Mo_number 43 = .ok (.iconst 4, 1) := by decide +kernel
theorem d_Mo_number_44 : decode b_Mo_number 44 = .ok (.if_icmp .ge 31, 3) := by decide +kernel
theorem d_Mo_number_47 : decode b_Mo_number 47 = .ok (.bipush 10, 2) := by decide +kernel
theorem d_Mo_number_49 : decode b_Mo_number 49 = .ok (.iload 5, 2) := by decide +kernel
theorem d_Mo_number_51 : decode b_Mo_number 51 = .ok (.imul, 1) := by decide +kernel
theorem d_Mo_number_52 : decode b_Mo_number 52 = .ok (.aload_n 0, 1) := by decide +kernel
theorem d_Mo_number_53 : decode b_Mo_number 53 = .ok (.invokevirtual 57, 3) := by decide +kernel
theorem d_Mo_number_56 : decode b_Mo_number 56 = .ok (.iadd, 1) := by decide +kernel
theorem d_Mo_number_57 : decode b_Mo_number 57 = .ok (.bipush 48, 2) := by decide +kernel
theorem d_Mo_number_59 : decode b_Mo_number 59 = .ok (.isub, 1) := by decide +kernel
theorem d_Mo_number_60 : decode b_Mo_number 60 = .ok (.istore 5, 2) := by decide +kernel
theorem d_Mo_number_62 : decode b_Mo_number 62 = .ok (.aload_n 0, 1) := by decide +kernel
theorem d_Mo_number_63 : decode b_Mo_number 63 = .ok (.dup, 1) := by decide +kernel
theorem d_Mo_number_64 : decode b_Mo_number 64 = .ok (.getfield 51, 3) := by decide +kernel
theorem d_Mo_number_67 : decode b_Mo_number 67 = .ok (.iconst 1, 1) := by decide +kernel
theorem d_Mo_number_68 : decode b_Mo_number 68 = .ok (.iadd, 1) := by decide +kernel
theorem d_Mo_number_69 : decode b_Mo_number 69 = .ok (.putfield 51, 3) := by decide +kernel
theorem d_Mo_number_72 : decode b_Mo_number 72 = .ok (.goto (-54), 3) := by decide +kernel
theorem d_Mo_number_75 : decode b_Mo_number 75 = .ok (.aload_n 0, 1) := by decide +kernel
theorem d_Mo_number_76 : decode b_Mo_number 76 = .ok (.getfield 51, 3) := by decide +kernel
theorem d_Mo_number_79 : decode b_Mo_number 79 = .ok (.iload 4, 2) := by decide +kernel
theorem d_Mo_number_81 : decode b_Mo_number 81 = .ok (.if_icmp .eq 15, 3) := by decide +kernel
theorem d_Mo_number_84 : decode b_Mo_number 84 = .ok (.iload 5, 2) := by decide +kernel
theorem d_Mo_number_86 : decode b_Mo_number 86 = .ok (.iload_n 1, 1) := by decide +kernel
theorem d_Mo_number_87 : decode b_Mo_number 87 = .ok (.if_icmp .lt 9, 3) := by decide +kernel
theorem d_Mo_number_90 : decode b_Mo_number 90 = .ok (.iload 5, 2) := by decide +kernel
theorem d_Mo_number_92 : decode b_Mo_number 92 = .ok (.iload_n 2, 1) := by decide +kernel
theorem d_Mo_number_93 : decode b_Mo_number 93 = .ok (.if_icmp .le 12, 3) := by decide +kernel
theorem d_Mo_number_96 : decode b_Mo_number 96 = .ok (.aload_n 0, 1) := by decide +kernel
theorem d_Mo_number_97 : decode b_Mo_number 97 = .ok (.iload 4, 2) := by decide +kernel
theorem d_Mo_number_99 : decode b_Mo_number 99 = .ok (.invokevirtual 61, 3) := by decide +kernel
theorem d_Mo_number_102 : decode b_Mo_number 102 = .ok (.goto 12, 3) := by decide +kernel
theorem d_Mo_number_105 : decode b_Mo_number 105 = .ok (.iload_n 3, 1) := by decide +kernel
theorem d_Mo_number_106 : decode b_Mo_number 106 = .ok (.ifCond .le 8, 3) := by decide +kernel
theorem d_Mo_number_109 : decode b_Mo_number 109 = .ok (.aload_n 0, 1) := by decide +kernel
theorem d_Mo_number_110 : decode b_Mo_number 110 = .ok (.iload_n 3, 1) := by decide +kernel
theorem d_Mo_number_111 : decode b_Mo_number 111 = .ok (.invokevirtual 65, 3) := by decide +kernel
theorem d_Mo_number_114 : decode b_Mo_number 114 = .ok (.aload_n 0, 1) := by decide +kernel
theorem d_Mo_number_115 : decode b_Mo_number 115 = .ok (.getfield 54, 3) := by decide +kernel
theorem d_Mo_number_118 : decode b_Mo_number 118 = .ok (.ifCond .lt 7, 3) := by decide +kernel
theorem d_Mo_number_121 : decode b_Mo_number 121 = .ok (.iconst (-1), 1) := by decide +kernel
theorem d_Mo_number_122 : decode b_Mo_number 122 = .ok (.goto 5, 3) := by decide +kernel
theorem d_Mo_number_125 : decode b_Mo_number 125 = .ok (.iload 5, 2) := by decide +kernel
theorem d_Mo_number_127 : decode b_Mo_number 127 = .ok (.ireturn, 1) := by decide +kernel
theorem d_Mo_fails_0 : decode b_Mo_fails 0 = .ok (.aload_n 0, 1) := by decide +kernel
theorem d_Mo_fails_1 : decode b_Mo_fails 1 = .ok (.aload_n 0, 1) := by decide +kernel
theorem d_Mo_fails_2 : decode b_Mo_fails 2 = .ok (.getfield 54, 3) := by decide +kernel
theorem d_Mo_fails_5 : decode b_Mo_fails 5 = .ok (.ifCond .ge 7, 3) := by decide +kernel
theorem d_Mo_fails_8 : decode b_Mo_fails 8 = .ok (.iload_n 1, 1) := by decide +kernel
theorem d_Mo_fails_9 : decode b_Mo_fails 9 = .ok (.goto 7, 3) := by decide +kernel
theorem d_Mo_fails_12 : decode b_Mo_fails 12 = .ok (.aload_n 0, 1) := by decide +kernel
theorem d_Mo_fails_13 : decode b_Mo_fails 13 = .ok (.getfield 54, 3) := by decide +kernel
theorem d_Mo_fails_16 : decode b_Mo_fails 16 = .ok (.putfield 54, 3) := by decide +kernel
theorem d_Mo_fails_19 : decode b_Mo_fails 19 = .ok (.return_, 1) := by decide +kernel
theorem d_Mo_sign1_0 : decode b_Mo_sign1 0 = .ok (.aload_n 0, 1) := by decide +kernel
theorem d_Mo_sign1_1 : decode b_Mo_sign1 1 = .ok (.getfield 54, 3) := by decide +kernel
theorem d_Mo_sign1_4 : decode b_Mo_sign1 4 = .ok (.ifCond .ge 24, 3) := by decide +kernel
theorem d_Mo_sign1_7 : decode b_Mo_sign1 7 = .ok (.aload_n 0, 1) := by decide +kernel
theorem d_Mo_sign1_8 : decode b_Mo_sign1 8 = .ok (.invokevirtual 57, 3) := by decide +kernel
theorem d_Mo_sign1_11 : decode b_Mo_sign1 11 = .ok (.iload_n 1, 1) := by decide +kernel
theorem d_Mo_sign1_12 : decode b_Mo_sign1 12 = .ok (.if_icmp .ne 16, 3) := by decide +kernel
theorem d_Mo_sign1_15 : decode b_Mo_sign1 15 = .ok (.aload_n 0, 1) := by decide +kernel
theorem d_Mo_sign1_16 : decode b_Mo_sign1 16 = .ok (.dup, 1) := by decide +kernel
theorem d_Mo_sign1_17 : decode b_Mo_sign1 17 = .ok (.getfield 51, 3) := by decide +kernel
theorem d_Mo_sign1_20 : decode b_Mo_sign1 20 = .ok (.iconst 1, 1) := by decide +kernel
theorem d_Mo_sign1_21 : decode b_Mo_sign1 21 = .ok (.iadd, 1) := by decide +kernel
theorem d_Mo_sign1_22 : decode b_Mo_sign1 22 = .ok (.putfield 51, 3) := by decide +kernel
theorem d_Mo_sign1_25 : decode b_Mo_sign1 25 = .ok (.goto 11, 3) := by decide +kernel
theorem d_Mo_sign1_28 : decode b_Mo_sign1 28 = .ok (.aload_n 0, 1) := by decide +kernel
theorem d_Mo_sign1_29 : decode b_Mo_sign1 29 = .ok (.aload_n 0, 1) := by decide +kernel
theorem d_Mo_sign1_30 : decode b_Mo_sign1 30 = .ok (.getfield 51, 3) := by decide +kernel
theorem d_Mo_sign1_33 : decode b_Mo_sign1 33 = .ok (.invokevirtual 61, 3) := by decide +kernel
theorem d_Mo_sign1_36 : decode b_Mo_sign1 36 = .ok (.return_, 1) := by decide +kernel
theorem d_Mo_readBin_0 : decode b_Mo_readBin 0 = .ok (.aload_n 0, 1) := by decide +kernel
theorem d_Mo_readBin_1 : decode b_Mo_readBin 1 = .ok (.iconst 1, 1) := by decide +kernel
theorem d_Mo_readBin_2 : decode b_Mo_readBin 2 = .ok (.bipush 40, 2) := by decide +kernel
theorem d_Mo_readBin_4 : decode b_Mo_readBin 4 = .ok (.bipush 44, 2) := by decide +kernel
theorem d_Mo_readBin_6 : decode b_Mo_readBin 6 = .ok (.invokevirtual 68, 3) := by decide +kernel
theorem d_Mo_readBin_9 : decode b_Mo_readBin 9 = .ok (.istore_n 2, 1) := by decide +kernel
theorem d_Mo_readBin_10 : decode b_Mo_readBin 10 = .ok (.aload_n 0, 1) := by decide +kernel
theorem d_Mo_readBin_11 : decode b_Mo_readBin 11 = .ok (.iconst 0, 1) := by decide +kernel
theorem d_Mo_readBin_12 : decode b_Mo_readBin 12 = .ok (.iconst 3, 1) := by decide +kernel
theorem d_Mo_readBin_13 : decode b_Mo_readBin 13 = .ok (.bipush 44, 2) := by decide +kernel
theorem d_Mo_readBin_15 : decode b_Mo_readBin 15 = .ok (.invokevirtual 68, 3) := by decide +kernel
theorem d_Mo_readBin_18 : decode b_Mo_readBin 18 = .ok (.istore_n 3, 1) := by decide +kernel
theorem d_Mo_readBin_19 : decode b_Mo_readBin 19 = .ok (.aload_n 0, 1) := by decide +kernel
theorem d_Mo_readBin_20 : decode b_Mo_readBin 20 = .ok (.iconst 0, 1) := by decide +kernel
theorem d_Mo_readBin_21 : decode b_Mo_readBin 21 = .ok (.iconst 2, 1) := by decide +kernel
theorem d_Mo_readBin_22 : decode b_Mo_readBin 22 = .ok (.bipush 44, 2) := by decide +kernel
theorem d_Mo_readBin_24 : decode b_Mo_readBin 24 = .ok (.invokevirtual 68, 3) := by decide +kernel
theorem d_Mo_readBin_27 : decode b_Mo_readBin 27 = .ok (.istore 4, 2) := by decide +kernel
theorem d_Mo_readBin_29 : decode b_Mo_readBin 29 = .ok (.aload_n 0, 1) := by decide +kernel
theorem d_Mo_readBin_30 : decode b_Mo_readBin 30 = .ok (.iconst 1, 1) := by decide +kernel
theorem d_Mo_readBin_31 : decode b_Mo_readBin 31 = .ok (.bipush 60, 2) := by decide +kernel
theorem d_Mo_readBin_33 : decode b_Mo_readBin 33 = .ok (.iconst 0, 1) := by decide +kernel
theorem d_Mo_readBin_34 : decode b_Mo_readBin 34 = .ok (.invokevirtual 68, 3) := by decide +kernel
theorem d_Mo_readBin_37 : decode b_Mo_readBin 37 = .ok (.istore 5, 2) := by decide +kernel
theorem d_Mo_readBin_39 : decode b_Mo_readBin 39 = .ok (.aload_n 0, 1) := by decide +kernel
theorem d_Mo_readBin_40 : decode b_Mo_readBin 40 = .ok (.getfield 54, 3) := by decide +kernel
theorem d_Mo_readBin_43 : decode b_Mo_readBin 43 = .ok (.ifCond .ge 16, 3) := by decide +kernel
theorem d_Mo_readBin_46 : decode b_Mo_readBin 46 = .ok (.aload_n 0, 1) := by decide +kernel
theorem d_Mo_readBin_47 : decode b_Mo_readBin 47 = .ok (.invokevirtual 57, 3) := by decide +kernel
theorem d_Mo_readBin_50 : decode b_Mo_readBin 50 = .ok (.bipush 43, 2) := by decide +kernel
theorem d_Mo_readBin_52 : decode b_Mo_readBin 52 = .ok (.if_icmp .ne 7, 3) := by decide +kernel
theorem d_Mo_readBin_55 : decode b_Mo_readBin 55 = .ok (.iconst 1, 1) := by decide +kernel
theorem d_Mo_readBin_56 : decode b_Mo_readBin 56 = .ok (.goto 4, 3) := by decide +kernel
theorem d_Mo_readBin_59 : decode b_Mo_readBin 59 = .ok (.iconst 0, 1) := by decide +kernel
theorem d_Mo_readBin_60 : decode b_Mo_readBin 60 = .ok (.istore 6, 2) := by decide +kernel
theorem d_Mo_readBin_62 : decode b_Mo_readBin 62 = .ok (.aload_n 0, 1) := by decide +kernel
theorem d_Mo_readBin_63 : decode b_Mo_readBin 63 = .ok (.iload 6, 2) := by decide +kernel
theorem d_Mo_readBin_65 : decode b_Mo_readBin 65 = .ok (.ifCond .eq 12, 3) := by decide +kernel
theorem d_Mo_readBin_68 : decode b_Mo_readBin 68 = .ok (.aload_n 0, 1) := by decide +kernel
theorem d_Mo_readBin_69 : decode b_Mo_readBin 69 = .ok (.getfield 51, 3) := by decide +kernel
theorem d_Mo_readBin_72 : decode b_Mo_readBin 72 = .ok (.iconst 1, 1) := by decide +kernel
theorem d_Mo_readBin_73 : decode b_Mo_readBin 73 = .ok (.iadd, 1) := by decide +kernel
theorem d_Mo_readBin_74 : decode b_Mo_readBin 74 = .ok (.goto 7, 3) := by decide +kernel
theorem d_Mo_readBin_77 : decode b_Mo_readBin 77 = .ok (.aload_n 0, 1) := by decide +kernel
theorem d_Mo_readBin_78 : decode b_Mo_readBin 78 = .ok (.getfield 51, 3) := by decide +kernel
theorem d_Mo_readBin_81 : decode b_Mo_readBin 81 = .ok (.putfield 51, 3) := by decide +kernel
theorem d_Mo_readBin_84 : decode b_Mo_readBin 84 = .ok (.aload_n 0, 1) := by decide +kernel
theorem d_Mo_readBin_85 : decode b_Mo_readBin 85 = .ok (.bipush 59, 2) := by decide +kernel
theorem d_Mo_readBin_87 : decode b_Mo_readBin 87 = .ok (.invokevirtual 65, 3) := by decide +kernel
theorem d_Mo_readBin_90 : decode b_Mo_readBin 90 = .ok (.aload_n 0, 1) := by decide +kernel
theorem d_Mo_readBin_91 : decode b_Mo_readBin 91 = .ok (.getfield 54, 3) := by decide +kernel
theorem d_Mo_readBin_94 : decode b_Mo_readBin 94 = .ok (.ifCond .lt 4, 3) := by decide +kernel
theorem d_Mo_readBin_97 : decode b_Mo_readBin 97 = .ok (.return_, 1) := by decide +kernel
theorem d_Mo_readBin_98 : decode b_Mo_readBin 98 = .ok (.bipush 9, 2) := by decide +kernel
theorem d_Mo_readBin_100 : decode b_Mo_readBin 100 = .ok (.iload_n 2, 1) := by decide +kernel
theorem d_Mo_readBin_101 : decode b_Mo_readBin 101 = .ok (.iload_n 3, 1) := by decide +kernel
theorem d_Mo_readBin_102 : decode b_Mo_readBin 102 = .ok (.iload 4, 2) := by decide +kernel
theorem d_Mo_readBin_104 : decode b_Mo_readBin 104 = .ok (.invokestatic 75, 3) := by decide +kernel
theorem d_Mo_readBin_107 : decode b_Mo_readBin 107 = .ok (.istore 7, 2) := by decide +kernel
theorem d_Mo_readBin_109 : decode b_Mo_readBin 109 = .ok (.aload_n 0, 1) := by decide +kernel
theorem d_Mo_readBin_110 : decode b_Mo_readBin 110 = .ok (.getfield 13, 3) := by decide +kernel
theorem d_Mo_readBin_113 : decode b_Mo_readBin 113 = .ok (.iload 7, 2) := by decide +kernel
theorem d_Mo_readBin_115 : decode b_Mo_readBin 115 = .ok (.iaload, 1) := by decide +kernel
theorem d_Mo_readBin_116 : decode b_Mo_readBin 116 = .ok (.ifCond .le 8, 3) := by decide +kernel
theorem d_Mo_readBin_119 : decode b_Mo_readBin 119 = .ok (.aload_n 0, 1) := by decide +kernel
theorem d_Mo_readBin_120 : decode b_Mo_readBin 120 = .ok (.iload_n 1, 1) := by decide +kernel
theorem d_Mo_readBin_121 : decode b_Mo_readBin 121 = .ok (.invokevirtual 61, 3) := by decide +kernel
theorem d_Mo_readBin_124 : decode b_Mo_readBin 124 = .ok (.aload_n 0, 1) := by decide +kernel
theorem d_Mo_readBin_125 : decode b_Mo_readBin 125 = .ok (.getfield 13, 3) := by decide +kernel
theorem d_Mo_readBin_128 : decode b_Mo_readBin 128 = .ok (.iload 7, 2) := by decide +kernel
theorem d_Mo_readBin_130 : decode b_Mo_readBin 130 = .ok (.iload 5, 2) := by decide +kernel
theorem d_Mo_readBin_132 : decode b_Mo_readBin 132 = .ok (.iastore, 1) := by decide +kernel
theorem d_Mo_readBin_133 : decode b_Mo_readBin 133 = .ok (.aload_n 0, 1) := by decide +kernel
theorem d_Mo_readBin_134 : decode b_Mo_readBin 134 = .ok (.getfield 20, 3) := by decide +kernel
theorem d_Mo_readBin_137 : decode b_Mo_readBin 137 = .ok (.iload 7, 2) := by decide +kernel
theorem d_Mo_readBin_139 : decode b_Mo_readBin 139 = .ok (.sipush 4428, 3) := by decide +kernel
theorem d_Mo_readBin_142 : decode b_Mo_readBin 142 = .ok (.isub, 1) := by decide +kernel
theorem d_Mo_readBin_143 : decode b_Mo_readBin 143 = .ok (.iload 6, 2) := by decide +kernel
theorem d_Mo_readBin_145 : decode b_Mo_readBin 145 = .ok (.bastore, 1) := by decide +kernel
theorem d_Mo_readBin_146 : decode b_Mo_readBin 146 = .ok (.return_, 1) := by decide +kernel
theorem d_Mo_place_0 : decode b_Mo_place 0 = .ok (.sipush 492, 3) := by decide +kernel
theorem d_Mo_place_3 : decode b_Mo_place 3 = .ok (.iload_n 0, 1) := by decide +kernel
theorem d_Mo_place_4 : decode b_Mo_place 4 = .ok (.imul, 1) := by decide +kernel
theorem d_Mo_place_5 : decode b_Mo_place 5 = .ok (.sipush 164, 3) := by decide +kernel
theorem d_Mo_place_8 : decode b_Mo_place 8 = .ok (.iload_n 3, 1) := by decide +kernel
theorem d_Mo_place_9 : decode b_Mo_place 9 = .ok (.imul, 1) := by decide +kernel
theorem d_Mo_place_10 : decode b_Mo_place 10 = .ok (.iadd, 1) := by decide +kernel
theorem d_Mo_place_11 : decode b_Mo_place 11 = .ok (.bipush 41, 2) := by decide +kernel
theorem d_Mo_place_13 : decode b_Mo_place 13 = .ok (.iload_n 2, 1) := by decide +kernel
theorem d_Mo_place_14 : decode b_Mo_place 14 = .ok (.imul, 1) := by decide +kernel
theorem d_Mo_place_15 : decode b_Mo_place 15 = .ok (.iadd, 1) := by decide +kernel
theorem d_Mo_place_16 : decode b_Mo_place 16 = .ok (.iload_n 1, 1) := by decide +kernel
theorem d_Mo_place_17 : decode b_Mo_place 17 = .ok (.iadd, 1) := by decide +kernel
theorem d_Mo_place_18 : decode b_Mo_place 18 = .ok (.ireturn, 1) := by decide +kernel
theorem d_Mo_readOverflow_0 : decode b_Mo_readOverflow 0 = .ok (.aload_n 0, 1) := by decide +kernel
theorem d_Mo_readOverflow_1 : decode b_Mo_readOverflow 1 = .ok (.iconst 1, 1) := by decide +kernel
theorem d_Mo_readOverflow_2 : decode b_Mo_readOverflow 2 = .ok (.bipush 60, 2) := by decide +kernel
theorem d_Mo_readOverflow_4 : decode b_Mo_readOverflow 4 = .ok (.bipush 44, 2) := by decide +kernel
theorem d_Mo_readOverflow_6 : decode b_Mo_readOverflow 6 = .ok (.invokevirtual 68, 3) := by decide +kernel
theorem d_Mo_readOverflow_9 : decode b_Mo_readOverflow 9 = .ok (.istore_n 2, 1) := by decide +kernel
theorem d_Mo_readOverflow_10 : decode b_Mo_readOverflow 10 = .ok (.aload_n 0, 1) := by decide +kernel
theorem d_Mo_readOverflow_11 : decode b_Mo_readOverflow 11 = .ok (.iconst 1, 1) := by decide +kernel
theorem d_Mo_readOverflow_12 : decode b_Mo_readOverflow 12 = .ok (.bipush 60, 2) := by decide +kernel
theorem d_Mo_readOverflow_14 : decode b_Mo_readOverflow 14 = .ok (.bipush 59, 2) := by decide +kernel
theorem d_Mo_readOverflow_16 : decode b_Mo_readOverflow 16 = .ok (.invokevirtual 68, 3) := by decide +kernel
theorem d_Mo_readOverflow_19 : decode b_Mo_readOverflow 19 = .ok (.istore_n 3, 1) := by decide +kernel
theorem d_Mo_readOverflow_20 : decode b_Mo_readOverflow 20 = .ok (.aload_n 0, 1) := by decide +kernel
theorem d_Mo_readOverflow_21 : decode b_Mo_readOverflow 21 = .ok (.getfield 54, 3) := by decide +kernel
theorem d_Mo_readOverflow_24 : decode b_Mo_readOverflow 24 = .ok (.ifCond .lt 4, 3) := by decide +kernel
theorem d_Mo_readOverflow_27 : decode b_Mo_readOverflow 27 = .ok (.return_, 1) := by decide +kernel
theorem d_Mo_readOverflow_28 : decode b_Mo_readOverflow 28 = .ok (.aload_n 0, 1) := by decide +kernel
theorem d_Mo_readOverflow_29 : decode b_Mo_readOverflow 29 = .ok (.getfield 32, 3) := by decide +kernel
theorem d_Mo_readOverflow_32 : decode b_Mo_readOverflow 32 = .ok (.iload_n 2, 1) := by decide +kernel
theorem d_Mo_readOverflow_33 : decode b_Mo_readOverflow 33 = .ok (.iaload, 1) := by decide +kernel
theorem d_Mo_readOverflow_34 : decode b_Mo_readOverflow 34 = .ok (.ifCond .le 8, 3) := by decide +kernel
theorem d_Mo_readOverflow_37 : decode b_Mo_readOverflow 37 = .ok (.aload_n 0, 1) := by decide +kernel
theorem d_Mo_readOverflow_38 : decode b_Mo_readOverflow 38 = .ok (.iload_n 1, 1) := by decide +kernel
theorem d_Mo_readOverflow_39 : decode b_Mo_readOverflow 39 = .ok (.invokevirtual 61, 3) := by decide +kernel
theorem d_Mo_readOverflow_42 : decode b_Mo_readOverflow 42 = .ok (.aload_n 0, 1) := by decide +kernel
theorem d_Mo_readOverflow_43 : decode b_Mo_readOverflow 43 = .ok (.getfield 32, 3) := by decide +kernel
theorem d_Mo_readOverflow_46 : decode b_Mo_readOverflow 46 = .ok (.iload_n 2, 1) := by decide +kernel
theorem d_Mo_readOverflow_47 : decode b_Mo_readOverflow 47 = .ok (.iload_n 3, 1) := by decide +kernel
theorem d_Mo_readOverflow_48 : decode b_Mo_readOverflow 48 = .ok (.iastore, 1) := by decide +kernel
theorem d_Mo_readOverflow_49 : decode b_Mo_readOverflow 49 = .ok (.return_, 1) := by decide +kernel
theorem d_Mo_target_0 : decode b_Mo_target 0 = .ok (.aload_n 0, 1) := by decide +kernel
theorem d_Mo_target_1 : decode b_Mo_target 1 = .ok (.iconst 0, 1) := by decide +kernel
theorem d_Mo_target_2 : decode b_Mo_target 2 = .ok (.putfield 48, 3) := by decide +kernel
theorem d_Mo_target_5 : decode b_Mo_target 5 = .ok (.iload_n 1, 1) := by decide +kernel
theorem d_Mo_target_6 : decode b_Mo_target 6 = .ok (.iconst 0, 1) := by decide +kernel
theorem d_Mo_target_7 : decode b_Mo_target 7 = .ok (.sipush 9999, 3) := by decide +kernel
theorem d_Mo_target_10 : decode b_Mo_target 10 = .ok (.invokestatic 97, 3) := by decide +kernel
theorem d_Mo_target_13 : decode b_Mo_target 13 = .ok (.ifCond .eq 13, 3) := by decide +kernel
theorem d_Mo_target_16 : decode b_Mo_target 16 = .ok (.iload_n 2, 1) := by decide +kernel
theorem d_Mo_target_17 : decode b_Mo_target 17 = .ok (.iconst 0, 1) := by decide +kernel
theorem d_Mo_target_18 : decode b_Mo_target 18 = .ok (.bipush 9, 2) := by decide +kernel
theorem d_Mo_target_20 : decode b_Mo_target 20 = .ok (.invokestatic 97, 3) := by decide +kernel
theorem d_Mo_target_23 : decode b_Mo_target 23 = .ok (.ifCond .ne 6, 3) := by decide +kernel
theorem d_Mo_target_26 : decode b_Mo_target 26 = .ok (.bipush (-102), 2) := by decide +kernel
theorem d_Mo_target_28 : decode b_Mo_target 28 = .ok (.ireturn, 1) := by decide +kernel
theorem d_Mo_target_29 : decode b_Mo_target 29 = .ok (.aload_n 0, 1) := by decide +kernel
theorem d_Mo_target_30 : decode b_Mo_target 30 = .ok (.getfield 91, 3) := by decide +kernel
theorem d_Mo_target_33 : decode b_Mo_target 33 = .ok (.ifCond .ne 6, 3) := by decide +kernel
theorem d_Mo_target_36 : decode b_Mo_target 36 = .ok (.bipush (-103), 2) := by decide +kernel
theorem d_Mo_target_38 : decode b_Mo_target 38 = .ok (.ireturn, 1) := by decide +kernel
theorem d_Mo_target_39 : decode b_Mo_target 39 = .ok (.iconst 1, 1) := by decide +kernel
theorem d_Mo_target_40 : decode b_Mo_target 40 = .ok (.istore_n 3, 1) := by decide +kernel
theorem d_Mo_target_41 : decode b_Mo_target 41 = .ok (.iload_n 3, 1) := by decide +kernel
theorem d_Mo_target_42 : decode b_Mo_target 42 = .ok (.bipush 41, 2) := by decide +kernel
theorem d_Mo_target_44 : decode b_Mo_target 44 = .ok (.if_icmp .ge 86, 3) := by decide +kernel
theorem d_Mo_target_47 : decode b_Mo_target 47 = .ok (.iconst 0, 1) := by decide +kernel
theorem d_Mo_target_48 : decode b_Mo_target 48 = .ok (.istore 4, 2) := by decide +kernel
theorem d_Mo_target_50 : decode b_Mo_target 50 = .ok (.iload 4, 2) := by decide +kernel
theorem d_Mo_target_52 : decode b_Mo_target 52 = .ok (.aload_n 0, 1) := by decide +kernel
theorem d_Mo_target_53 : decode b_Mo_target 53 = .ok (.getfield 94, 3) := by decide +kernel
theorem d_Mo_target_56 : decode b_Mo_target 56 = .ok (.if_icmp .ge 68, 3) := by decide +kernel
theorem d_Mo_target_59 : decode b_Mo_target 59 = .ok (.aload_n 0, 1) := by decide +kernel
theorem d_Mo_target_60 : decode b_Mo_target 60 = .ok (.getfield 23, 3) := by decide +kernel
theorem d_Mo_target_63 : decode b_Mo_target 63 = .ok (.iconst 4, 1) := by decide +kernel
theorem d_Mo_target_64 : decode b_Mo_target 64 = .ok (.iload 4, 2) := by decide +kernel
theorem d_Mo_target_66 : decode b_Mo_target 66 = .ok (.imul, 1) := by decide +kernel
theorem d_Mo_target_67 : decode b_Mo_target 67 = .ok (.iaload, 1) := by decide +kernel
theorem d_Mo_target_68 : decode b_Mo_target 68 = .ok (.iload_n 3, 1) := by decide +kernel
theorem d_Mo_target_69 : decode b_Mo_target 69 = .ok (.if_icmp .ne 49, 3) := by decide +kernel
theorem d_Mo_target_72 : decode b_Mo_target 72 = .ok (.aload_n 0, 1) := by decide +kernel
theorem d_Mo_target_73 : decode b_Mo_target 73 = .ok (.getfield 23, 3) := by decide +kernel
theorem d_Mo_target_76 : decode b_Mo_target 76 = .ok (.iconst 4, 1) := by decide +kernel
theorem d_Mo_target_77 : decode b_Mo_target 77 = .ok (.iload 4, 2) := by decide +kernel
theorem d_Mo_target_79 : decode b_Mo_target 79 = .ok (.imul, 1) := by decide +kernel
theorem d_Mo_target_80 : decode b_Mo_target 80 = .ok (.iconst 3, 1) := by decide +kernel
theorem d_Mo_target_81 : decode b_Mo_target 81 = .ok (.iadd, 1) := by decide +kernel
theorem d_Mo_target_82 : decode b_Mo_target 82 = .ok (.iaload, 1) := by decide +kernel
theorem d_Mo_target_83 : decode b_Mo_target 83 = .ok (.iload_n 2, 1) := by decide +kernel
theorem d_Mo_target_84 : decode b_Mo_target 84 = .ok (.if_icmp .ne 34, 3) := by decide +kernel
theorem d_Mo_target_87 : decode b_Mo_target 87 = .ok (.iload_n 1, 1) := by decide +kernel
theorem d_Mo_target_88 : decode b_Mo_target 88 = .ok (.aload_n 0, 1) := by decide +kernel
theorem d_Mo_target_89 : decode b_Mo_target 89 = .ok (.getfield 23, 3) := by decide +kernel
theorem d_Mo_target_92 : decode b_Mo_target 92 = .ok (.iconst 4, 1) := by decide +kernel
theorem d_Mo_target_93 : decode b_Mo_target 93 = .ok (.iload 4, 2) := by decide +kernel
theorem d_Mo_target_95 : decode b_Mo_target 95 = .ok (.imul, 1) := by decide +kernel
theorem d_Mo_target_96 : decode b_Mo_target 96 = .ok (.iconst 1, 1) := by decide +kernel
theorem d_Mo_target_97 : decode b_Mo_target 97 = .ok (.iadd, 1) := by decide +kernel
theorem d_Mo_target_98 : decode b_Mo_target 98 = .ok (.iaload, 1) := by decide +kernel
theorem d_Mo_target_99 : decode b_Mo_target 99 = .ok (.aload_n 0, 1) := by decide +kernel
theorem d_Mo_target_100 : decode b_Mo_target 100 = .ok (.getfield 23, 3) := by decide +kernel
theorem d_Mo_target_103 : decode b_Mo_target 103 = .ok (.iconst 4, 1) := by decide +kernel
theorem d_Mo_target_104 : decode b_Mo_target 104 = .ok (.iload 4, 2) := by decide +kernel
theorem d_Mo_target_106 : decode b_Mo_target 106 = .ok (.imul, 1) := by decide +kernel
theorem d_Mo_target_107 : decode b_Mo_target 107 = .ok (.iconst 2, 1) := by decide +kernel
theorem d_Mo_target_108 : decode b_Mo_target 108 = .ok (.iadd, 1) := by decide +kernel
theorem d_Mo_target_109 : decode b_Mo_target 109 = .ok (.iaload, 1) := by decide +kernel
theorem d_Mo_target_110 : decode b_Mo_target 110 = .ok (.invokestatic 97, 3) := by decide +kernel
theorem d_Mo_target_113 : decode b_Mo_target 113 = .ok (.ifCond .eq 5, 3) := by decide +kernel
theorem d_Mo_target_116 : decode b_Mo_target 116 = .ok (.iload_n 3, 1) := by decide +kernel
theorem d_Mo_target_117 : decode b_Mo_target 117 = .ok (.ireturn, 1) := by decide +kernel
theorem d_Mo_target_118 : decode b_Mo_target 118 = .ok (.iinc 4 1, 3) := by decide +kernel
theorem d_Mo_target_121 : decode b_Mo_target 121 = .ok (.goto (-71), 3) := by decide +kernel
theorem d_Mo_target_124 : decode b_Mo_target 124 = .ok (.iinc 3 1, 3) := by decide +kernel
theorem d_Mo_target_127 : decode b_Mo_target 127 = .ok (.goto (-86), 3) := by decide +kernel
theorem d_Mo_target_130 : decode b_Mo_target 130 = .ok (.iconst 0, 1) := by decide +kernel
theorem d_Mo_target_131 : decode b_Mo_target 131 = .ok (.ireturn, 1) := by decide +kernel
theorem d_Mo_isIn_0 : decode b_Mo_isIn 0 = .ok (.iload_n 0, 1) := by decide +kernel
theorem d_Mo_isIn_1 : decode b_Mo_isIn 1 = .ok (.iload_n 1, 1) := by decide +kernel
theorem d_Mo_isIn_2 : decode b_Mo_isIn 2 = .ok (.if_icmp .lt 12, 3) := by decide +kernel
theorem d_Mo_isIn_5 : decode b_Mo_isIn 5 = .ok (.iload_n 0, 1) := by decide +kernel
theorem d_Mo_isIn_6 : decode b_Mo_isIn 6 = .ok (.iload_n 2, 1) := by decide +kernel
theorem d_Mo_isIn_7 : decode b_Mo_isIn 7 = .ok (.if_icmp .gt 7, 3) := by decide +kernel
theorem d_Mo_isIn_10 : decode b_Mo_isIn 10 = .ok (.iconst 1, 1) := by decide +kernel
theorem d_Mo_isIn_11 : decode b_Mo_isIn 11 = .ok (.goto 4, 3) := by decide +kernel
theorem d_Mo_isIn_14 : decode b_Mo_isIn 14 = .ok (.iconst 0, 1) := by decide +kernel
theorem d_Mo_isIn_15 : decode b_Mo_isIn 15 = .ok (.ireturn, 1) := by decide +kernel
theorem d_Mo_bin_0 : decode b_Mo_bin 0 = .ok (.aload_n 0, 1) := by decide +kernel
theorem d_Mo_bin_1 : decode b_Mo_bin 1 = .ok (.iconst 0, 1) := by decide +kernel
theorem d_Mo_bin_2 : decode b_Mo_bin 2 = .ok (.putfield 48, 3) := by decide +kernel
theorem d_Mo_bin_5 : decode b_Mo_bin 5 = .ok (.iload_n 1, 1) := by decide +kernel
theorem d_Mo_bin_6 : decode b_Mo_bin 6 = .ok (.iconst 1, 1) := by decide +kernel
theorem d_Mo_bin_7 : decode b_Mo_bin 7 = .ok (.bipush 40, 2) := by decide +kernel
theorem d_Mo_bin_9 : decode b_Mo_bin 9 = .ok (.invokestatic 97, 3) := by decide +kernel
theorem d_Mo_bin_12 : decode b_Mo_bin 12 = .ok (.ifCond .ne 6, 3) := by decide +kernel
theorem d_Mo_bin_15 : decode b_Mo_bin 15 = .ok (.bipush (-101), 2) := by decide +kernel
theorem d_Mo_bin_17 : decode b_Mo_bin 17 = .ok (.ireturn, 1) := by decide +kernel
theorem d_Mo_bin_18 : decode b_Mo_bin 18 = .ok (.iload_n 2, 1) := by decide +kernel
theorem d_Mo_bin_19 : decode b_Mo_bin 19 = .ok (.iconst 0, 1) := by decide +kernel
theorem d_Mo_bin_20 : decode b_Mo_bin 20 = .ok (.iconst 3, 1) := by decide +kernel
theorem d_Mo_bin_21 : decode b_Mo_bin 21 = .ok (.invokestatic 97, 3) := by decide +kernel
theorem d_Mo_bin_24 : decode b_Mo_bin 24 = .ok (.ifCond .eq 12, 3) := by decide +kernel
theorem d_Mo_bin_27 : decode b_Mo_bin 27 = .ok (.iload_n 3, 1) := by decide +kernel
theorem d_Mo_bin_28 : decode b_Mo_bin 28 = .ok (.iconst 0, 1) := by decide +kernel
theorem d_Mo_bin_29 : decode b_Mo_bin 29 = .ok (.iconst 2, 1) := by decide +kernel
theorem d_Mo_bin_30 : decode b_Mo_bin 30 = .ok (.invokestatic 97, 3) := by decide +kernel
theorem d_Mo_bin_33 : decode b_Mo_bin 33 = .ok (.ifCond .ne 6, 3) := by decide +kernel
theorem d_Mo_bin_36 : decode b_Mo_bin 36 = .ok (.bipush (-102), 2) := by decide +kernel
theorem d_Mo_bin_38 : decode b_Mo_bin 38 = .ok (.ireturn, 1) := by decide +kernel
theorem d_Mo_bin_39 : decode b_Mo_bin 39 = .ok (.aload_n 0, 1) := by decide +kernel
theorem d_Mo_bin_40 : decode b_Mo_bin 40 = .ok (.getfield 91, 3) := by decide +kernel
theorem d_Mo_bin_43 : decode b_Mo_bin 43 = .ok (.ifCond .ne 8, 3) := by decide +kernel
theorem d_Mo_bin_46 : decode b_Mo_bin 46 = .ok (.bipush (-103), 2) := by decide +kernel
theorem d_Mo_bin_48 : decode b_Mo_bin 48 = .ok (.goto 29, 3) := by decide +kernel
theorem d_Mo_bin_51 : decode b_Mo_bin 51 = .ok (.aload_n 0, 1) := by decide +kernel
theorem d_Mo_bin_52 : decode b_Mo_bin 52 = .ok (.getfield 35, 3) := by decide +kernel
theorem d_Mo_bin_55 : decode b_Mo_bin 55 = .ok (.iload_n 1, 1) := by decide +kernel
theorem d_Mo_bin_56 : decode b_Mo_bin 56 = .ok (.baload, 1) := by decide +kernel
theorem d_Mo_bin_57 : decode b_Mo_bin 57 = .ok (.ifCond .eq 7, 3) := by decide +kernel
theorem d_Mo_bin_60 : decode b_Mo_bin 60 = .ok (.iconst 0, 1) := by decide +kernel
theorem d_Mo_bin_61 : decode b_Mo_bin 61 = .ok (.goto 16, 3) := by decide +kernel
theorem d_Mo_bin_64 : decode b_Mo_bin 64 = .ok (.aload_n 0, 1) := by decide +kernel
theorem d_Mo_bin_65 : decode b_Mo_bin 65 = .ok (.getfield 13, 3) := by decide +kernel
theorem d_Mo_bin_68 : decode b_Mo_bin 68 = .ok (.bipush 8, 2) := by decide +kernel
theorem d_Mo_bin_70 : decode b_Mo_bin 70 = .ok (.iload_n 1, 1) := by decide +kernel
theorem d_Mo_bin_71 : decode b_Mo_bin 71 = .ok (.iload_n 2, 1) := by decide +kernel
theorem d_Mo_bin_72 : decode b_Mo_bin 72 = .ok (.iload_n 3, 1) := by decide +kernel
theorem d_Mo_bin_73 : decode b_Mo_bin 73 = .ok (.invokestatic 75, 3) := by decide +kernel
theorem d_Mo_bin_76 : decode b_Mo_bin 76 = .ok (.iaload, 1) := by decide +kernel
theorem d_Mo_bin_77 : decode b_Mo_bin 77 = .ok (.ireturn, 1) := by decide +kernel
theorem d_Mo_check_0 : decode b_Mo_check 0 = .ok (.aload_n 0, 1) := by decide +kernel
theorem d_Mo_check_1 : decode b_Mo_check 1 = .ok (.iconst 0, 1) := by decide +kernel
theorem d_Mo_check_2 : decode b_Mo_check 2 = .ok (.putfield 48, 3) := by decide +kernel
theorem d_Mo_check_5 : decode b_Mo_check 5 = .ok (.aload_n 0, 1) := by decide +kernel
theorem d_Mo_check_6 : decode b_Mo_check 6 = .ok (.getfield 91, 3) := by decide +kernel
theorem d_Mo_check_9 : decode b_Mo_check 9 = .ok (.ifCond .ne 6, 3) := by decide +kernel
theorem d_Mo_check_12 : decode b_Mo_check 12 = .ok (.bipush (-103), 2) := by decide +kernel
theorem d_Mo_check_14 : decode b_Mo_check 14 = .ok (.ireturn, 1) := by decide +kernel
theorem d_Mo_check_15 : decode b_Mo_check 15 = .ok (.aload_n 0, 1) := by decide +kernel
theorem d_Mo_check_16 : decode b_Mo_check 16 = .ok (.iconst 0, 1) := by decide +kernel
theorem d_Mo_check_17 : decode b_Mo_check 17 = .ok (.putfield 101, 3) := by decide +kernel
theorem d_Mo_check_20 : decode b_Mo_check 20 = .ok (.iconst 0, 1) := by decide +kernel
theorem d_Mo_check_21 : decode b_Mo_check 21 = .ok (.istore_n 1, 1) := by decide +kernel
theorem d_Mo_check_22 : decode b_Mo_check 22 = .ok (.iload_n 1, 1) := by decide +kernel
theorem d_Mo_check_23 : decode b_Mo_check 23 = .ok (.bipush 12, 2) := by decide +kernel
theorem d_Mo_check_25 : decode b_Mo_check 25 = .ok (.if_icmp .ge 232, 3) := by decide +kernel
theorem d_Mo_check_28 : decode b_Mo_check 28 = .ok (.iload_n 1, 1) := by decide +kernel
theorem d_Mo_check_29 : decode b_Mo_check 29 = .ok (.iconst 4, 1) := by decide +kernel
theorem d_Mo_check_30 : decode b_Mo_check 30 = .ok (.idiv, 1) := by decide +kernel
theorem d_Mo_check_31 : decode b_Mo_check 31 = .ok (.istore_n 2, 1) := by decide +kernel
theorem d_Mo_check_32 : decode b_Mo_check 32 = .ok (.iload_n 1, 1) := by decide +kernel
theorem d_Mo_check_33 : decode b_Mo_check 33 = .ok (.iconst 4, 1) := by decide +kernel
theorem d_Mo_check_34 : decode b_Mo_check 34 = .ok (.irem, 1) := by decide +kernel
theorem d_Mo_check_35 : decode b_Mo_check 35 = .ok (.istore_n 3, 1) := by decide +kernel
theorem d_Mo_check_36 : decode b_Mo_check 36 = .ok (.iconst 1, 1) := by decide +kernel
theorem d_Mo_check_37 : decode b_Mo_check 37 = .ok (.istore 4, 2) := by decide +kernel
theorem d_Mo_check_39 : decode b_Mo_check 39 = .ok (.iload 4, 2) := by decide +kernel
theorem d_Mo_check_41 : decode b_Mo_check 41 = .ok (.bipush 41, 2) := by decide +kernel
theorem d_Mo_check_43 : decode b_Mo_check 43 = .ok (.if_icmp .ge 54, 3) := by decide +kernel
theorem d_Mo_check_46 : decode b_Mo_check 46 = .ok (.aload_n 0, 1) := by decide +kernel
theorem d_Mo_check_47 : decode b_Mo_check 47 = .ok (.iload_n 3, 1) := by decide +kernel
theorem d_Mo_check_48 : decode b_Mo_check 48 = .ok (.iload_n 2, 1) := by decide +kernel
theorem d_Mo_check_49 : decode b_Mo_check 49 = .ok (.invokevirtual 104, 3) := by decide +kernel
theorem d_Mo_check_52 : decode b_Mo_check 52 = .ok (.ifCond .eq 45, 3) := by decide +kernel
theorem d_Mo_check_55 : decode b_Mo_check 55 = .ok (.aload_n 0, 1) := by decide +kernel
theorem d_Mo_check_56 : decode b_Mo_check 56 = .ok (.iload 4, 2) := by decide +kernel
theorem d_Mo_check_58 : decode b_Mo_check 58 = .ok (.invokevirtual 108, 3) := by decide +kernel
theorem d_Mo_check_61 : decode b_Mo_check 61 = .ok (.ifCond .eq 30, 3) := by decide +kernel
theorem d_Mo_check_64 : decode b_Mo_check 64 = .ok (.aload_n 0, 1) := by decide +kernel
theorem d_Mo_check_65 : decode b_Mo_check 65 = .ok (.getfield 13, 3) := by decide +kernel
theorem d_Mo_check_68 : decode b_Mo_check 68 = .ok (.bipush 8, 2) := by decide +kernel
theorem d_Mo_check_70 : decode b_Mo_check 70 = .ok (.iload 4, 2) := by decide +kernel
theorem d_Mo_check_72 : decode b_Mo_check 72 = .ok (.iload_n 3, 1) := by decide +kernel
theorem d_Mo_check_73 : decode b_Mo_check 73 = .ok (.iload_n 2, 1) := by decide +kernel
theorem d_Mo_check_74 : decode b_Mo_check 74 = .ok (.invokestatic 75, 3) := by decide +kernel
theorem d_Mo_check_77 : decode b_Mo_check 77 = .ok (.iaload, 1) := by decide +kernel
theorem d_Mo_check_78 : decode b_Mo_check 78 = .ok (.ifCond .ne 13, 3) := by decide +kernel
theorem d_Mo_check_81 : decode b_Mo_check 81 = .ok (.aload_n 0, 1) := by decide +kernel
theorem d_Mo_check_82 : decode b_Mo_check 82 = .ok (.iload_n 2, 1) := by decide +kernel
theorem d_Mo_check_83 : decode b_Mo_check 83 = .ok (.iload_n 3, 1) := by decide +kernel
theorem d_Mo_check_84 : decode b_Mo_check 84 = .ok (.iload 4, 2) := by decide +kernel
theorem d_Mo_check_86 : decode b_Mo_check 86 = .ok (.iconst 0, 1) := by decide +kernel
theorem d_Mo_check_87 : decode b_Mo_check 87 = .ok (.iconst 0, 1) := by decide +kernel
theorem d_Mo_check_88 : decode b_Mo_check 88 = .ok (.invokevirtual 112, 3) := by decide +kernel
theorem d_Mo_check_91 : decode b_Mo_check 91 = .ok (.iinc 4 1, 3) := by decide +kernel
theorem d_Mo_check_94 : decode b_Mo_check 94 = .ok (.goto (-55), 3) := by decide +kernel
theorem d_Mo_check_97 : decode b_Mo_check 97 = .ok (.iconst 0, 1) := by decide +kernel
theorem d_Mo_check_98 : decode b_Mo_check 98 = .ok (.istore 4, 2) := by decide +kernel
theorem d_Mo_check_100 : decode b_Mo_check 100 = .ok (.iload 4, 2) := by decide +kernel
theorem d_Mo_check_102 : decode b_Mo_check 102 = .ok (.sipush 1600, 3) := by decide +kernel
theorem d_Mo_check_105 : decode b_Mo_check 105 = .ok (.if_icmp .ge 146, 3) := by decide +kernel
theorem d_Mo_check_108 : decode b_Mo_check 108 = .ok (.iload 4, 2) := by decide +kernel
theorem d_Mo_check_110 : decode b_Mo_check 110 = .ok (.bipush 40, 2) := by decide +kernel
theorem d_Mo_check_112 : decode b_Mo_check 112 = .ok (.idiv, 1) := by decide +kernel
theorem d_Mo_check_113 : decode b_Mo_check 113 = .ok (.iconst 1, 1) := by decide +kernel
theorem d_Mo_check_114 : decode b_Mo_check 114 = .ok (.iadd, 1) := by decide +kernel
theorem d_Mo_check_115 : decode b_Mo_check 115 = .ok (.istore 5, 2) := by decide +kernel
theorem d_Mo_check_117 : decode b_Mo_check 117 = .ok (.iload 4, 2) := by decide +kernel
theorem d_Mo_check_119 : decode b_Mo_check 119 = .ok (.bipush 40, 2) := by decide +kernel
theorem d_Mo_check_121 : decode b_Mo_check 121 = .ok (.irem, 1) := by decide +kernel
theorem d_Mo_check_122 : decode b_Mo_check 122 = .ok (.iconst 1, 1) := by decide +kernel
theorem d_Mo_check_123 : decode b_Mo_check 123 = .ok (.iadd, 1) := by decide +kernel
theorem d_Mo_check_124 : decode b_Mo_check 124 = .ok (.istore 6, 2) := by decide +kernel
theorem d_Mo_check_126 : decode b_Mo_check 126 = .ok (.bipush 8, 2) := by decide +kernel
theorem d_Mo_check_128 : decode b_Mo_check 128 = .ok (.iload 5, 2) := by decide +kernel
theorem d_Mo_check_130 : decode b_Mo_check 130 = .ok (.iload_n 3, 1) := by decide +kernel
theorem d_Mo_check_131 : decode b_Mo_check 131 = .ok (.iload_n 2, 1) := by decide +kernel
theorem d_Mo_check_132 : decode b_Mo_check 132 = .ok (.invokestatic 75, 3) := by decide +kernel
theorem d_Mo_check_135 : decode b_Mo_check 135 = .ok (.istore 7, 2) := by decide +kernel
theorem d_Mo_check_137 : decode b_Mo_check 137 = .ok (.bipush 8, 2) := by decide +kernel
theorem d_Mo_check_139 : decode b_Mo_check 139 = .ok (.iload 6, 2) := by decide +kernel
theorem d_Mo_check_141 : decode b_Mo_check 141 = .ok (.iload_n 3, 1) := by decide +kernel
theorem d_Mo_check_142 : decode b_Mo_check 142 = .ok (.iload_n 2, 1) := by decide +kernel
theorem d_Mo_check_143 : decode b_Mo_check 143 = .ok (.invokestatic 75, 3) := by decide +kernel
theorem d_Mo_check_146 : decode b_Mo_check 146 = .ok (.istore 8, 2) := by decide +kernel
theorem d_Mo_check_148 : decode b_Mo_check 148 = .ok (.iload 5, 2) := by decide +kernel
theorem d_Mo_check_150 : decode b_Mo_check 150 = .ok (.iload 6, 2) := by decide +kernel
theorem d_Mo_check_152 : decode b_Mo_check 152 = .ok (.if_icmp .ge 93, 3) := by decide +kernel
theorem d_Mo_check_155 : decode b_Mo_check 155 = .ok (.aload_n 0, 1) := by decide +kernel
theorem d_Mo_check_156 : decode b_Mo_check 156 = .ok (.getfield 13, 3) := by decide +kernel
theorem d_Mo_check_159 : decode b_Mo_check 159 = .ok (.iload 7, 2) := by decide +kernel
theorem d_Mo_check_161 : decode b_Mo_check 161 = .ok (.iaload, 1) := by decide +kernel
theorem d_Mo_check_162 : decode b_Mo_check 162 = .ok (.ifCond .le 83, 3) := by decide +kernel
theorem d_Mo_check_165 : decode b_Mo_check 165 = .ok (.aload_n 0, 1) := by decide +kernel
theorem d_Mo_check_166 : decode b_Mo_check 166 = .ok (.getfield 13, 3) := by decide +kernel
theorem d_Mo_check_169 : decode b_Mo_check 169 = .ok (.iload 7, 2) := by decide +kernel
theorem d_Mo_check_171 : decode b_Mo_check 171 = .ok (.iaload, 1) := by decide +kernel
theorem d_Mo_check_172 : decode b_Mo_check 172 = .ok (.aload_n 0, 1) := by decide +kernel
theorem d_Mo_check_173 : decode b_Mo_check 173 = .ok (.getfield 13, 3) := by decide +kernel
theorem d_Mo_check_176 : decode b_Mo_check 176 = .ok (.iload 8, 2) := by decide +kernel
theorem d_Mo_check_178 : decode b_Mo_check 178 = .ok (.iaload, 1) := by decide +kernel
theorem d_Mo_check_179 : decode b_Mo_check 179 = .ok (.if_icmp .ne 66, 3) := by decide +kernel
theorem d_Mo_check_182 : decode b_Mo_check 182 = .ok (.aload_n 0, 1) := by decide +kernel
theorem d_Mo_check_183 : decode b_Mo_check 183 = .ok (.getfield 16, 3) := by decide +kernel
theorem d_Mo_check_186 : decode b_Mo_check 186 = .ok (.iload 7, 2) := by decide +kernel
theorem d_Mo_check_188 : decode b_Mo_check 188 = .ok (.sipush 3936, 3) := by decide +kernel
theorem d_Mo_check_191 : decode b_Mo_check 191 = .ok (.isub, 1) := by decide +kernel
theorem d_Mo_check_192 : decode b_Mo_check 192 = .ok (.baload, 1) := by decide +kernel
theorem d_Mo_check_193 : decode b_Mo_check 193 = .ok (.ifCond .eq 17, 3) := by decide +kernel
theorem d_Mo_check_196 : decode b_Mo_check 196 = .ok (.aload_n 0, 1) := by decide +kernel
theorem d_Mo_check_197 : decode b_Mo_check 197 = .ok (.getfield 16, 3) := by decide +kernel
theorem d_Mo_check_200 : decode b_Mo_check 200 = .ok (.iload 8, 2) := by decide +kernel
theorem d_Mo_check_202 : decode b_Mo_check 202 = .ok (.sipush 3936, 3) := by decide +kernel
theorem d_Mo_check_205 : decode b_Mo_check 205 = .ok (.isub, 1) := by decide +kernel
theorem d_Mo_check_206 : decode b_Mo_check 206 = .ok (.baload, 1) := by decide +kernel
theorem d_Mo_check_207 : decode b_Mo_check 207 = .ok (.ifCond .ne 38, 3) := by decide +kernel
theorem d_Mo_check_210 : decode b_Mo_check 210 = .ok (.aload_n 0, 1) := by decide +kernel
theorem d_Mo_check_211 : decode b_Mo_check 211 = .ok (.iload 5, 2) := by decide +kernel
theorem d_Mo_check_213 : decode b_Mo_check 213 = .ok (.invokevirtual 108, 3) := by decide +kernel
theorem d_Mo_check_216 : decode b_Mo_check 216 = .ok (.ifCond .eq 29, 3) := by decide +kernel
theorem d_Mo_check_219 : decode b_Mo_check 219 = .ok (.aload_n 0, 1) := by decide +kernel
theorem d_Mo_check_220 : decode b_Mo_check 220 = .ok (.iload 6, 2) := by decide +kernel
theorem d_Mo_check_222 : decode b_Mo_check 222 = .ok (.invokevirtual 108, 3) := by decide +kernel
theorem d_Mo_check_225 : decode b_Mo_check 225 = .ok (.ifCond .eq 20, 3) := by decide +kernel
theorem d_Mo_check_228 : decode b_Mo_check 228 = .ok (.aload_n 0, 1) := by decide +kernel
theorem d_Mo_check_229 : decode b_Mo_check 229 = .ok (.iload_n 2, 1) := by decide +kernel
theorem d_Mo_check_230 : decode b_Mo_check 230 = .ok (.iload_n 3, 1) := by decide +kernel
theorem d_Mo_check_231 : decode b_Mo_check 231 = .ok (.iload 5, 2) := by decide +kernel
theorem d_Mo_check_233 : decode b_Mo_check 233 = .ok (.iload 6, 2) := by decide +kernel
theorem d_Mo_check_235 : decode b_Mo_check 235 = .ok (.aload_n 0, 1) := by decide +kernel
theorem d_Mo_check_236 : decode b_Mo_check 236 = .ok (.getfield 13, 3) := by decide +kernel
theorem d_Mo_check_239 : decode b_Mo_check 239 = .ok (.iload 7, 2) := by decide +kernel
theorem d_Mo_check_241 : decode b_Mo_check 241 = .ok (.iaload, 1) := by decide +kernel
theorem d_Mo_check_242 : decode b_Mo_check 242 = .ok (.invokevirtual 112, 3) := by decide +kernel
theorem d_Mo_check_245 : decode b_Mo_check 245 = .ok (.iinc 4 1, 3) := by decide +kernel
theorem d_Mo_check_248 : decode b_Mo_check 248 = .ok (.goto (-148), 3) := by decide +kernel
theorem d_Mo_check_251 : decode b_Mo_check 251 = .ok (.iinc 1 1, 3) := by decide +kernel
theorem d_Mo_check_254 : decode b_Mo_check 254 = .ok (.goto (-232), 3) := by decide +kernel
theorem d_Mo_check_257 : decode b_Mo_check 257 = .ok (.aload_n 0, 1) := by decide +kernel
theorem d_Mo_check_258 : decode b_Mo_check 258 = .ok (.getfield 101, 3) := by decide +kernel
theorem d_Mo_check_261 : decode b_Mo_check 261 = .ok (.ireturn, 1) := by decide +kernel
theorem d_Mo_isPass_0 : decode b_Mo_isPass 0 = .ok (.iconst 0, 1) := by decide +kernel
theorem d_Mo_isPass_1 : decode b_Mo_isPass 1 = .ok (.istore_n 3, 1) := by decide +kernel
theorem d_Mo_isPass_2 : decode b_Mo_isPass 2 = .ok (.iload_n 1, 1) := by decide +kernel
theorem d_Mo_isPass_3 : decode b_Mo_isPass 3 = .ok (.istore 4, 2) := by decide +kernel
theorem d_Mo_isPass_5 : decode b_Mo_isPass 5 = .ok (.iload 4, 2) := by decide +kernel
theorem d_Mo_isPass_7 : decode b_Mo_isPass 7 = .ok (.iconst 4, 1) := by decide +kernel
theorem d_Mo_isPass_8 : decode b_Mo_isPass 8 = .ok (.if_icmp .ge 53, 3) := by decide +kernel
theorem d_Mo_isPass_11 : decode b_Mo_isPass 11 = .ok (.iconst 1, 1) := by decide +kernel
theorem d_Mo_isPass_12 : decode b_Mo_isPass 12 = .ok (.istore 5, 2) := by decide +kernel
theorem d_Mo_isPass_14 : decode b_Mo_isPass 14 = .ok (.iload 5, 2) := by decide +kernel
theorem d_Mo_isPass_16 : decode b_Mo_isPass 16 = .ok (.bipush 41, 2) := by decide +kernel
theorem d_Mo_isPass_18 : decode b_Mo_isPass 18 = .ok (.if_icmp .ge 37, 3) := by decide +kernel
theorem d_Mo_isPass_21 : decode b_Mo_isPass 21 = .ok (.iload_n 3, 1) := by decide +kernel
theorem d_Mo_isPass_22 : decode b_Mo_isPass 22 = .ok (.ifCond .ne 21, 3) := by decide +kernel
theorem d_Mo_isPass_25 : decode b_Mo_isPass 25 = .ok (.aload_n 0, 1) := by decide +kernel
theorem d_Mo_isPass_26 : decode b_Mo_isPass 26 = .ok (.getfield 13, 3) := by decide +kernel
theorem d_Mo_isPass_29 : decode b_Mo_isPass 29 = .ok (.bipush 8, 2) := by decide +kernel
theorem d_Mo_isPass_31 : decode b_Mo_isPass 31 = .ok (.iload 5, 2) := by decide +kernel
theorem d_Mo_isPass_33 : decode b_Mo_isPass 33 = .ok (.iload 4, 2) := by decide +kernel
theorem d_Mo_isPass_35 : decode b_Mo_isPass 35 = .ok (.iload_n 2, 1) := by decide +kernel
theorem d_Mo_isPass_36 : decode b_Mo_isPass 36 = .ok (.invokestatic 75, 3) := by decide +kernel
theorem d_Mo_isPass_39 : decode b_Mo_isPass 39 = .ok (.iaload, 1) := by decide +kernel
theorem d_Mo_isPass_40 : decode b_Mo_isPass 40 = .ok (.ifCond .le 7, 3) := by decide +kernel
theorem d_Mo_isPass_43 : decode b_Mo_isPass 43 = .ok (.iconst 1, 1) := by decide +kernel
theorem d_Mo_isPass_44 : decode b_Mo_isPass 44 = .ok (.goto 4, 3) := by decide +kernel
theorem d_Mo_isPass_47 : decode b_Mo_isPass 47 = .ok (.iconst 0, 1) := by decide +kernel
theorem d_Mo_isPass_48 : decode b_Mo_isPass 48 = .ok (.istore_n 3, 1) := by decide +kernel
theorem d_Mo_isPass_49 : decode b_Mo_isPass 49 = .ok (.iinc 5 1, 3) := by decide +kernel
theorem d_Mo_isPass_52 : decode b_Mo_isPass 52 = .ok (.goto (-38), 3) := by decide +kernel
theorem d_Mo_isPass_55 : decode b_Mo_isPass 55 = .ok (.iinc 4 1, 3) := by decide +kernel
theorem d_Mo_isPass_58 : decode b_Mo_isPass 58 = .ok (.goto (-53), 3) := by decide +kernel
theorem d_Mo_isPass_61 : decode b_Mo_isPass 61 = .ok (.iload_n 3, 1) := by decide +kernel
theorem d_Mo_isPass_62 : decode b_Mo_isPass 62 = .ok (.ireturn, 1) := by decide +kernel
theorem d_Mo_isUsed_0 : decode b_Mo_isUsed 0 = .ok (.iconst 0, 1) := by decide +kernel
theorem d_Mo_isUsed_1 : decode b_Mo_isUsed 1 = .ok (.istore_n 2, 1) := by decide +kernel
theorem d_Mo_isUsed_2 : decode b_Mo_isUsed 2 = .ok (.iconst 0, 1) := by decide +kernel
theorem d_Mo_isUsed_3 : decode b_Mo_isUsed 3 = .ok (.istore_n 3, 1) := by decide +kernel
theorem d_Mo_isUsed_4 : decode b_Mo_isUsed 4 = .ok (.iload_n 3, 1) := by decide +kernel
theorem d_Mo_isUsed_5 : decode b_Mo_isUsed 5 = .ok (.aload_n 0, 1) := by decide +kernel
theorem d_Mo_isUsed_6 : decode b_Mo_isUsed 6 = .ok (.getfield 94, 3) := by decide +kernel
theorem d_Mo_isUsed_9 : decode b_Mo_isUsed 9 = .ok (.if_icmp .ge 31, 3) := by decide +kernel
theorem d_Mo_isUsed_12 : decode b_Mo_isUsed 12 = .ok (.iload_n 2, 1) := by decide +kernel
theorem d_Mo_isUsed_13 : decode b_Mo_isUsed 13 = .ok (.ifCond .ne 15, 3) := by decide +kernel
theorem d_Mo_isUsed_16 : decode b_Mo_isUsed 16 = .ok (.aload_n 0, 1) := by decide +kernel
theorem d_Mo_isUsed_17 : decode b_Mo_isUsed 17 = .ok (.getfield 23, 3) := by decide +kernel
theorem d_Mo_isUsed_20 : decode b_Mo_isUsed 20 = .ok (.iconst 4, 1) := by decide +kernel
theorem d_Mo_isUsed_21 : decode b_Mo_isUsed 21 = .ok (.iload_n 3, 1) := by decide +kernel
theorem d_Mo_isUsed_22 : decode b_Mo_isUsed 22 = .ok (.imul, 1) := by decide +kernel
theorem d_Mo_isUsed_23 : decode b_Mo_isUsed 23 = .ok (.iaload, 1) := by decide +kernel
theorem d_Mo_isUsed_24 : decode b_Mo_isUsed 24 = .ok (.iload_n 1, 1) := by decide +kernel
theorem d_Mo_isUsed_25 : decode b_Mo_isUsed 25 = .ok (.if_icmp .ne 7, 3) := by decide +kernel
theorem d_Mo_isUsed_28 : decode b_Mo_isUsed 28 = .ok (.iconst 1, 1) := by decide +kernel
theorem d_Mo_isUsed_29 : decode b_Mo_isUsed 29 = .ok (.goto 4, 3) := by decide +kernel
theorem d_Mo_isUsed_32 : decode b_Mo_isUsed 32 = .ok (.iconst 0, 1) := by decide +kernel
theorem d_Mo_isUsed_33 : decode b_Mo_isUsed 33 = .ok (.istore_n 2, 1) := by decide +kernel
theorem d_Mo_isUsed_34 : decode b_Mo_isUsed 34 = .ok (.iinc 3 1, 3) := by decide +kernel
theorem d_Mo_isUsed_37 : decode b_Mo_isUsed 37 = .ok (.goto (-33), 3) := by decide +kernel
theorem d_Mo_isUsed_40 : decode b_Mo_isUsed 40 = .ok (.iload_n 2, 1) := by decide +kernel
theorem d_Mo_isUsed_41 : decode b_Mo_isUsed 41 = .ok (.ireturn, 1) := by decide +kernel
theorem d_Mo_tell_0 : decode b_Mo_tell 0 = .ok (.aload_n 0, 1) := by decide +kernel
theorem d_Mo_tell_1 : decode b_Mo_tell 1 = .ok (.getfield 101, 3) := by decide +kernel
theorem d_Mo_tell_4 : decode b_Mo_tell 4 = .ok (.bipush 100, 2) := by decide +kernel
theorem d_Mo_tell_6 : decode b_Mo_tell 6 = .ok (.if_icmp .ge 73, 3) := by decide +kernel
theorem d_Mo_tell_9 : decode b_Mo_tell 9 = .ok (.aload_n 0, 1) := by decide +kernel
theorem d_Mo_tell_10 : decode b_Mo_tell 10 = .ok (.getfield 38, 3) := by decide +kernel
theorem d_Mo_tell_13 : decode b_Mo_tell 13 = .ok (.iconst 5, 1) := by decide +kernel
theorem d_Mo_tell_14 : decode b_Mo_tell 14 = .ok (.aload_n 0, 1) := by decide +kernel
theorem d_Mo_tell_15 : decode b_Mo_tell 15 = .ok (.getfield 101, 3) := by decide +kernel
theorem d_Mo_tell_18 : decode b_Mo_tell 18 = .ok (.imul, 1) := by decide +kernel
theorem d_Mo_tell_19 : decode b_Mo_tell 19 = .ok (.iload_n 1, 1) := by decide +kernel
theorem d_Mo_tell_20 : decode b_Mo_tell 20 = .ok (.iastore, 1) := by decide +kernel
theorem d_Mo_tell_21 : decode b_Mo_tell 21 = .ok (.aload_n 0, 1) := by decide +kernel
theorem d_Mo_tell_22 : decode b_Mo_tell 22 = .ok (.getfield 38, 3) := by decide +kernel
theorem d_Mo_tell_25 : decode b_Mo_tell 25 = .ok (.iconst 5, 1) := by decide +kernel
theorem d_Mo_tell_26 : decode b_Mo_tell 26 = .ok (.aload_n 0, 1) := by decide +kernel
theorem d_Mo_tell_27 : decode b_Mo_tell 27 = .ok (.getfield 101, 3) := by decide +kernel
theorem d_Mo_tell_30 : decode b_Mo_tell 30 = .ok (.imul, 1) := by decide +kernel
theorem d_Mo_tell_31 : decode b_Mo_tell 31 = .ok (.iconst 1, 1) := by decide +kernel
theorem d_Mo_tell_32 : decode b_Mo_tell 32 = .ok (.iadd, 1) := by decide +kernel
theorem d_Mo_tell_33 : decode b_Mo_tell 33 = .ok (.iload_n 2, 1) := by decide +kernel
theorem d_Mo_tell_34 : decode b_Mo_tell 34 = .ok (.iastore, 1) := by decide +kernel
theorem d_Mo_tell_35 : decode b_Mo_tell 35 = .ok (.aload_n 0, 1) := by decide +kernel
theorem d_Mo_tell_36 : decode b_Mo_tell 36 = .ok (.getfield 38, 3) := by decide +kernel
theorem d_Mo_tell_39 : decode b_Mo_tell 39 = .ok (.iconst 5, 1) := by decide +kernel
theorem d_Mo_tell_40 : decode b_Mo_tell 40 = .ok (.aload_n 0, 1) := by decide +kernel
theorem d_Mo_tell_41 : decode b_Mo_tell 41 = .ok (.getfield 101, 3) := by decide +kernel
theorem d_Mo_tell_44 : decode b_Mo_tell 44 = .ok (.imul, 1) := by decide +kernel
theorem d_Mo_tell_45 : decode b_Mo_tell 45 = .ok (.iconst 2, 1) := by decide +kernel
theorem d_Mo_tell_46 : decode b_Mo_tell 46 = .ok (.iadd, 1) := by decide +kernel
theorem d_Mo_tell_47 : decode b_Mo_tell 47 = .ok (.iload_n 3, 1) := by decide +kernel
theorem d_Mo_tell_48 : decode b_Mo_tell 48 = .ok (.iastore, 1) := by decide +kernel
theorem d_Mo_tell_49 : decode b_Mo_tell 49 = .ok (.aload_n 0, 1) := by decide +kernel
theorem d_Mo_tell_50 : decode b_Mo_tell 50 = .ok (.getfield 38, 3) := by decide +kernel
theorem d_Mo_tell_53 : decode b_Mo_tell 53 = .ok (.iconst 5, 1) := by decide +kernel
theorem d_Mo_tell_54 : decode b_Mo_tell 54 = .ok (.aload_n 0, 1) := by decide +kernel
theorem d_Mo_tell_55 : decode b_Mo_tell 55 = .ok (.getfield 101, 3) := by decide +kernel
theorem d_Mo_tell_58 : decode b_Mo_tell 58 = .ok (.imul, 1) := by decide +kernel
theorem d_Mo_tell_59 : decode b_Mo_tell 59 = .ok (.iconst 3, 1) := by decide +kernel
theorem d_Mo_tell_60 : decode b_Mo_tell 60 = .ok (.iadd, 1) := by decide +kernel
theorem d_Mo_tell_61 : decode b_Mo_tell 61 = .ok (.iload 4, 2) := by decide +kernel
theorem d_Mo_tell_63 : decode b_Mo_tell 63 = .ok (.iastore, 1) := by decide +kernel
theorem d_Mo_tell_64 : decode b_Mo_tell 64 = .ok (.aload_n 0, 1) := by decide +kernel
theorem d_Mo_tell_65 : decode b_Mo_tell 65 = .ok (.getfield 38, 3) := by decide +kernel
theorem d_Mo_tell_68 : decode b_Mo_tell 68 = .ok (.iconst 5, 1) := by decide +kernel
theorem d_Mo_tell_69 : decode b_Mo_tell 69 = .ok (.aload_n 0, 1) := by decide +kernel
theorem d_Mo_tell_70 : decode b_Mo_tell 70 = .ok (.getfield 101, 3) := by decide +kernel
theorem d_Mo_tell_73 : decode b_Mo_tell 73 = .ok (.imul, 1) := by decide +kernel
theorem d_Mo_tell_74 : decode b_Mo_tell 74 = .ok (.iconst 4, 1) := by decide +kernel
theorem d_Mo_tell_75 : decode b_Mo_tell 75 = .ok (.iadd, 1) := by decide +kernel
theorem d_Mo_tell_76 : decode b_Mo_tell 76 = .ok (.iload 5, 2) := by decide +kernel
theorem d_Mo_tell_78 : decode b_Mo_tell 78 = .ok (.iastore, 1) := by decide +kernel
theorem d_Mo_tell_79 : decode b_Mo_tell 79 = .ok (.aload_n 0, 1) := by decide +kernel
theorem d_Mo_tell_80 : decode b_Mo_tell 80 = .ok (.dup, 1) := by decide +kernel
theorem d_Mo_tell_81 : decode b_Mo_tell 81 = .ok (.getfield 101, 3) := by decide +kernel
theorem d_Mo_tell_84 : decode b_Mo_tell 84 = .ok (.iconst 1, 1) := by decide +kernel
theorem d_Mo_tell_85 : decode b_Mo_tell 85 = .ok (.iadd, 1) := by decide +kernel
theorem d_Mo_tell_86 : decode b_Mo_tell 86 = .ok (.putfield 101, 3) := by decide +kernel
theorem d_Mo_tell_89 : decode b_Mo_tell 89 = .ok (.return_, 1) := by decide +kernel
theorem d_Mo_fault_0 : decode b_Mo_fault 0 = .ok (.aload_n 0, 1) := by decide +kernel
theorem d_Mo_fault_1 : decode b_Mo_fault 1 = .ok (.iconst 0, 1) := by decide +kernel
theorem d_Mo_fault_2 : decode b_Mo_fault 2 = .ok (.putfield 48, 3) := by decide +kernel
theorem d_Mo_fault_5 : decode b_Mo_fault 5 = .ok (.iload_n 1, 1) := by decide +kernel
theorem d_Mo_fault_6 : decode b_Mo_fault 6 = .ok (.ifCond .lt 26, 3) := by decide +kernel
theorem d_Mo_fault_9 : decode b_Mo_fault 9 = .ok (.iload_n 1, 1) := by decide +kernel
theorem d_Mo_fault_10 : decode b_Mo_fault 10 = .ok (.aload_n 0, 1) := by decide +kernel
theorem d_Mo_fault_11 : decode b_Mo_fault 11 = .ok (.getfield 101, 3) := by decide +kernel
theorem d_Mo_fault_14 : decode b_Mo_fault 14 = .ok (.if_icmp .ge 18, 3) := by decide +kernel
theorem d_Mo_fault_17 : decode b_Mo_fault 17 = .ok (.iload_n 1, 1) := by decide +kernel
theorem d_Mo_fault_18 : decode b_Mo_fault 18 = .ok (.bipush 99, 2) := by decide +kernel
theorem d_Mo_fault_20 : decode b_Mo_fault 20 = .ok (.if_icmp .gt 12, 3) := by decide +kernel
theorem d_Mo_fault_23 : decode b_Mo_fault 23 = .ok (.iload_n 2, 1) := by decide +kernel
theorem d_Mo_fault_24 : decode b_Mo_fault 24 = .ok (.ifCond .lt 8, 3) := by decide +kernel
theorem d_Mo_fault_27 : decode b_Mo_fault 27 = .ok (.iload_n 2, 1) := by decide +kernel
theorem d_Mo_fault_28 : decode b_Mo_fault 28 = .ok (.iconst 4, 1) := by decide +kernel
theorem d_Mo_fault_29 : decode b_Mo_fault 29 = .ok (.if_icmp .le 7, 3) := by decide +kernel
theorem d_Mo_fault_32 : decode b_Mo_fault 32 = .ok (.iconst (-1), 1) := by decide +kernel
theorem d_Mo_fault_33 : decode b_Mo_fault 33 = .ok (.goto 13, 3) := by decide +kernel
theorem d_Mo_fault_36 : decode b_Mo_fault 36 = .ok (.aload_n 0, 1) := by decide +kernel
theorem d_Mo_fault_37 : decode b_Mo_fault 37 = .ok (.getfield 38, 3) := by decide +kernel
theorem d_Mo_fault_40 : decode b_Mo_fault 40 = .ok (.iconst 5, 1) := by decide +kernel
theorem d_Mo_fault_41 : decode b_Mo_fault 41 = .ok (.iload_n 1, 1) := by decide +kernel
theorem d_Mo_fault_42 : decode b_Mo_fault 42 = .ok (.imul, 1) := by decide +kernel
theorem d_Mo_fault_43 : decode b_Mo_fault 43 = .ok (.iload_n 2, 1) := by decide +kernel
theorem d_Mo_fault_44 : decode b_Mo_fault 44 = .ok (.iadd, 1) := by decide +kernel
theorem d_Mo_fault_45 : decode b_Mo_fault 45 = .ok (.iaload, 1) := by decide +kernel
theorem d_Mo_fault_46 : decode b_Mo_fault 46 = .ok (.ireturn, 1) := by decide +kernel
theorem d_Mo_hold_0 : decode b_Mo_hold 0 = .ok (.aload_n 0, 1) := by decide +kernel
theorem d_Mo_hold_1 : decode b_Mo_hold 1 = .ok (.iconst 0, 1) := by decide +kernel
theorem d_Mo_hold_2 : decode b_Mo_hold 2 = .ok (.putfield 48, 3) := by decide +kernel
theorem d_Mo_hold_5 : decode b_Mo_hold 5 = .ok (.iload_n 1, 1) := by decide +kernel
theorem d_Mo_hold_6 : decode b_Mo_hold 6 = .ok (.iconst 1, 1) := by decide +kernel
theorem d_Mo_hold_7 : decode b_Mo_hold 7 = .ok (.bipush 40, 2) := by decide +kernel
theorem d_Mo_hold_9 : decode b_Mo_hold 9 = .ok (.invokestatic 97, 3) := by decide +kernel
theorem d_Mo_hold_12 : decode b_Mo_hold 12 = .ok (.ifCond .ne 6, 3) := by decide +kernel
theorem d_Mo_hold_15 : decode b_Mo_hold 15 = .ok (.bipush (-101), 2) := by decide +kernel
theorem d_Mo_hold_17 : decode b_Mo_hold 17 = .ok (.ireturn, 1) := by decide +kernel
theorem d_Mo_hold_18 : decode b_Mo_hold 18 = .ok (.aload_n 0, 1) := by decide +kernel
theorem d_Mo_hold_19 : decode b_Mo_hold 19 = .ok (.getfield 91, 3) := by decide +kernel
theorem d_Mo_hold_22 : decode b_Mo_hold 22 = .ok (.ifCond .ne 6, 3) := by decide +kernel
theorem d_Mo_hold_25 : decode b_Mo_hold 25 = .ok (.bipush (-103), 2) := by decide +kernel
theorem d_Mo_hold_27 : decode b_Mo_hold 27 = .ok (.ireturn, 1) := by decide +kernel
theorem d_Mo_hold_28 : decode b_Mo_hold 28 = .ok (.aload_n 0, 1) := by decide +kernel
theorem d_Mo_hold_29 : decode b_Mo_hold 29 = .ok (.getfield 35, 3) := by decide +kernel
theorem d_Mo_hold_32 : decode b_Mo_hold 32 = .ok (.iload_n 1, 1) := by decide +kernel
theorem d_Mo_hold_33 : decode b_Mo_hold 33 = .ok (.baload, 1) := by decide +kernel
theorem d_Mo_hold_34 : decode b_Mo_hold 34 = .ok (.iload_n 2, 1) := by decide +kernel
theorem d_Mo_hold_35 : decode b_Mo_hold 35 = .ok (.if_icmp .ne 7, 3) := by decide +kernel
theorem d_Mo_hold_38 : decode b_Mo_hold 38 = .ok (.iconst 0, 1) := by decide +kernel
theorem d_Mo_hold_39 : decode b_Mo_hold 39 = .ok (.goto 4, 3) := by decide +kernel
theorem d_Mo_hold_42 : decode b_Mo_hold 42 = .ok (.iconst 1, 1) := by decide +kernel
theorem d_Mo_hold_43 : decode b_Mo_hold 43 = .ok (.istore_n 3, 1) := by decide +kernel
theorem d_Mo_hold_44 : decode b_Mo_hold 44 = .ok (.aload_n 0, 1) := by decide +kernel
theorem d_Mo_hold_45 : decode b_Mo_hold 45 = .ok (.getfield 35, 3) := by decide +kernel
theorem d_Mo_hold_48 : decode b_Mo_hold 48 = .ok (.iload_n 1, 1) := by decide +kernel
theorem d_Mo_hold_49 : decode b_Mo_hold 49 = .ok (.iload_n 2, 1) := by decide +kernel
theorem d_Mo_hold_50 : decode b_Mo_hold 50 = .ok (.bastore, 1) := by decide +kernel
theorem d_Mo_hold_51 : decode b_Mo_hold 51 = .ok (.iload_n 3, 1) := by decide +kernel
theorem d_Mo_hold_52 : decode b_Mo_hold 52 = .ok (.ireturn, 1) := by decide +kernel
theorem d_Mo_compare_0 : decode b_Mo_compare 0 = .ok (.aload_n 0, 1) := by decide +kernel
theorem d_Mo_compare_1 : decode b_Mo_compare 1 = .ok (.iconst 0, 1) := by decide +kernel
theorem d_Mo_compare_2 : decode b_Mo_compare 2 = .ok (.putfield 48, 3) := by decide +kernel
theorem d_Mo_compare_5 : decode b_Mo_compare 5 = .ok (.iload_n 1, 1) := by decide +kernel
theorem d_Mo_compare_6 : decode b_Mo_compare 6 = .ok (.iconst 0, 1) := by decide +kernel
theorem d_Mo_compare_7 : decode b_Mo_compare 7 = .ok (.aload_n 0, 1) := by decide +kernel
theorem d_Mo_compare_8 : decode b_Mo_compare 8 = .ok (.getfield 91, 3) := by decide +kernel
theorem d_Mo_compare_11 : decode b_Mo_compare 11 = .ok (.ifCond .ne 8, 3) := by decide +kernel
theorem d_Mo_compare_14 : decode b_Mo_compare 14 = .ok (.bipush 7, 2) := by decide +kernel
theorem d_Mo_compare_16 : decode b_Mo_compare 16 = .ok (.goto 9, 3) := by decide +kernel
theorem d_Mo_compare_19 : decode b_Mo_compare 19 = .ok (.aload_n 0, 1) := by decide +kernel
theorem d_Mo_compare_20 : decode b_Mo_compare 20 = .ok (.getfield 91, 3) := by decide +kernel
theorem d_Mo_compare_23 : decode b_Mo_compare 23 = .ok (.iconst 1, 1) := by decide +kernel
theorem d_Mo_compare_24 : decode b_Mo_compare 24 = .ok (.isub, 1) := by decide +kernel
theorem d_Mo_compare_25 : decode b_Mo_compare 25 = .ok (.invokestatic 97, 3) := by decide +kernel
theorem d_Mo_compare_28 : decode b_Mo_compare 28 = .ok (.ifCond .ne 6, 3) := by decide +kernel
theorem d_Mo_compare_31 : decode b_Mo_compare 31 = .ok (.bipush (-101), 2) := by decide +kernel
theorem d_Mo_compare_33 : decode b_Mo_compare 33 = .ok (.ireturn, 1) := by decide +kernel
theorem d_Mo_compare_34 : decode b_Mo_compare 34 = .ok (.aload_n 0, 1) := by decide +kernel
theorem d_Mo_compare_35 : decode b_Mo_compare 35 = .ok (.getfield 91, 3) := by decide +kernel
theorem d_Mo_compare_38 : decode b_Mo_compare 38 = .ok (.ifCond .ne 6, 3) := by decide +kernel
theorem d_Mo_compare_41 : decode b_Mo_compare 41 = .ok (.bipush (-103), 2) := by decide +kernel
theorem d_Mo_compare_43 : decode b_Mo_compare 43 = .ok (.ireturn, 1) := by decide +kernel
theorem d_Mo_compare_44 : decode b_Mo_compare 44 = .ok (.iconst 0, 1) := by decide +kernel
theorem d_Mo_compare_45 : decode b_Mo_compare 45 = .ok (.istore_n 2, 1) := by decide +kernel
theorem d_Mo_compare_46 : decode b_Mo_compare 46 = .ok (.iconst 1, 1) := by decide +kernel
theorem d_Mo_compare_47 : decode b_Mo_compare 47 = .ok (.istore_n 3, 1) := by decide +kernel
theorem d_Mo_compare_48 : decode b_Mo_compare 48 = .ok (.iload_n 3, 1) := by decide +kernel
theorem d_Mo_compare_49 : decode b_Mo_compare 49 = .ok (.bipush 41, 2) := by decide +kernel
theorem d_Mo_compare_51 : decode b_Mo_compare 51 = .ok (.if_icmp .ge 93, 3) := by decide +kernel
theorem d_Mo_compare_54 : decode b_Mo_compare 54 = .ok (.iconst 0, 1) := by decide +kernel
theorem d_Mo_compare_55 : decode b_Mo_compare 55 = .ok (.istore 4, 2) := by decide +kernel
theorem d_Mo_compare_57 : decode b_Mo_compare 57 = .ok (.iconst 0, 1) := by decide +kernel
theorem d_Mo_compare_58 : decode b_Mo_compare 58 = .ok (.istore 5, 2) := by decide +kernel
theorem d_Mo_compare_60 : decode b_Mo_compare 60 = .ok (.iload 5, 2) := by decide +kernel
theorem d_Mo_compare_62 : decode b_Mo_compare 62 = .ok (.bipush 12, 2) := by decide +kernel
theorem d_Mo_compare_64 : decode b_Mo_compare 64 = .ok (.if_icmp .ge 61, 3) := by decide +kernel
theorem d_Mo_compare_67 : decode b_Mo_compare 67 = .ok (.iload 4, 2) := by decide +kernel
theorem d_Mo_compare_69 : decode b_Mo_compare 69 = .ok (.ifCond .ne 43, 3) := by decide +kernel
theorem d_Mo_compare_72 : decode b_Mo_compare 72 = .ok (.aload_n 0, 1) := by decide +kernel
theorem d_Mo_compare_73 : decode b_Mo_compare 73 = .ok (.getfield 13, 3) := by decide +kernel
theorem d_Mo_compare_76 : decode b_Mo_compare 76 = .ok (.bipush 8, 2) := by decide +kernel
theorem d_Mo_compare_78 : decode b_Mo_compare 78 = .ok (.iload_n 3, 1) := by decide +kernel
theorem d_Mo_compare_79 : decode b_Mo_compare 79 = .ok (.iload 5, 2) := by decide +kernel
theorem d_Mo_compare_81 : decode b_Mo_compare 81 = .ok (.iconst 4, 1) := by decide +kernel
theorem d_Mo_compare_82 : decode b_Mo_compare 82 = .ok (.irem, 1) := by decide +kernel
theorem d_Mo_compare_83 : decode b_Mo_compare 83 = .ok (.iload 5, 2) := by decide +kernel
theorem d_Mo_compare_85 : decode b_Mo_compare 85 = .ok (.iconst 4, 1) := by decide +kernel
theorem d_Mo_compare_86 : decode b_Mo_compare 86 = .ok (.idiv, 1) := by decide +kernel
theorem d_Mo_compare_87 : decode b_Mo_compare 87 = .ok (.invokestatic 75, 3) := by decide +kernel
theorem d_Mo_compare_90 : decode b_Mo_compare 90 = .ok (.iaload, 1) := by decide +kernel
theorem d_Mo_compare_91 : decode b_Mo_compare 91 = .ok (.aload_n 0, 1) := by decide +kernel
theorem d_Mo_compare_92 : decode b_Mo_compare 92 = .ok (.getfield 13, 3) := by decide +kernel
theorem d_Mo_compare_95 : decode b_Mo_compare 95 = .ok (.iload_n 1, 1) := by decide +kernel
theorem d_Mo_compare_96 : decode b_Mo_compare 96 = .ok (.iload_n 3, 1) := by decide +kernel
theorem d_Mo_compare_97 : decode b_Mo_compare 97 = .ok (.iload 5, 2) := by decide +kernel
theorem d_Mo_compare_99 : decode b_Mo_compare 99 = .ok (.iconst 4, 1) := by decide +kernel
theorem d_Mo_compare_100 : decode b_Mo_compare 100 = .ok (.irem, 1) := by decide +kernel
theorem d_Mo_compare_101 : decode b_Mo_compare 101 = .ok (.iload 5, 2) := by decide +kernel
theorem d_Mo_compare_103 : decode b_Mo_compare 103 = .ok (.iconst 4, 1) := by decide +kernel
theorem d_Mo_compare_104 : decode b_Mo_compare 104 = .ok (.idiv, 1) := by decide +kernel
theorem d_Mo_compare_105 : decode b_Mo_compare 105 = .ok (.invokestatic 75, 3) := by decide +kernel
theorem d_Mo_compare_108 : decode b_Mo_compare 108 = .ok (.iaload, 1) := by decide +kernel
theorem d_Mo_compare_109 : decode b_Mo_compare 109 = .ok (.if_icmp .eq 7, 3) := by decide +kernel
theorem d_Mo_compare_112 : decode b_Mo_compare 112 = .ok (.iconst 1, 1) := by decide +kernel
theorem d_Mo_compare_113 : decode b_Mo_compare 113 = .ok (.goto 4, 3) := by decide +kernel
theorem d_Mo_compare_116 : decode b_Mo_compare 116 = .ok (.iconst 0, 1) := by decide +kernel
theorem d_Mo_compare_117 : decode b_Mo_compare 117 = .ok (.istore 4, 2) := by decide +kernel
theorem d_Mo_compare_119 : decode b_Mo_compare 119 = .ok (.iinc 5 1, 3) := by decide +kernel
theorem d_Mo_compare_122 : decode b_Mo_compare 122 = .ok (.goto (-62), 3) := by decide +kernel
theorem d_Mo_compare_125 : decode b_Mo_compare 125 = .ok (.iload 4, 2) := by decide +kernel
theorem d_Mo_compare_127 : decode b_Mo_compare 127 = .ok (.ifCond .eq 9, 3) := by decide +kernel
theorem d_Mo_compare_130 : decode b_Mo_compare 130 = .ok (.iload_n 2, 1) := by decide +kernel
theorem d_Mo_compare_131 : decode b_Mo_compare 131 = .ok (.iconst 1, 1) := by decide +kernel
theorem d_Mo_compare_132 : decode b_Mo_compare 132 = .ok (.iadd, 1) := by decide +kernel
theorem d_Mo_compare_133 : decode b_Mo_compare 133 = .ok (.goto 4, 3) := by decide +kernel
theorem d_Mo_compare_136 : decode b_Mo_compare 136 = .ok (.iload_n 2, 1) := by decide +kernel
theorem d_Mo_compare_137 : decode b_Mo_compare 137 = .ok (.istore_n 2, 1) := by decide +kernel
theorem d_Mo_compare_138 : decode b_Mo_compare 138 = .ok (.iinc 3 1, 3) := by decide +kernel
theorem d_Mo_compare_141 : decode b_Mo_compare 141 = .ok (.goto (-93), 3) := by decide +kernel
theorem d_Mo_compare_144 : decode b_Mo_compare 144 = .ok (.iload_n 2, 1) := by decide +kernel
theorem d_Mo_compare_145 : decode b_Mo_compare 145 = .ok (.ireturn, 1) := by decide +kernel
theorem d_Mo_swap_0 : decode b_Mo_swap 0 = .ok (.aload_n 0, 1) := by decide +kernel
theorem d_Mo_swap_1 : decode b_Mo_swap 1 = .ok (.iconst 0, 1) := by decide +kernel
theorem d_Mo_swap_2 : decode b_Mo_swap 2 = .ok (.putfield 48, 3) := by decide +kernel
theorem d_Mo_swap_5 : decode b_Mo_swap 5 = .ok (.iload_n 1, 1) := by decide +kernel
theorem d_Mo_swap_6 : decode b_Mo_swap 6 = .ok (.iconst 1, 1) := by decide +kernel
theorem d_Mo_swap_7 : decode b_Mo_swap 7 = .ok (.bipush 60, 2) := by decide +kernel
theorem d_Mo_swap_9 : decode b_Mo_swap 9 = .ok (.invokestatic 97, 3) := by decide +kernel
theorem d_Mo_swap_12 : decode b_Mo_swap 12 = .ok (.ifCond .eq 13, 3) := by decide +kernel
theorem d_Mo_swap_15 : decode b_Mo_swap 15 = .ok (.iload_n 2, 1) := by decide +kernel
theorem d_Mo_swap_16 : decode b_Mo_swap 16 = .ok (.iconst 1, 1) := by decide +kernel
theorem d_Mo_swap_17 : decode b_Mo_swap 17 = .ok (.bipush 60, 2) := by decide +kernel
theorem d_Mo_swap_19 : decode b_Mo_swap 19 = .ok (.invokestatic 97, 3) := by decide +kernel
theorem d_Mo_swap_22 : decode b_Mo_swap 22 = .ok (.ifCond .ne 6, 3) := by decide +kernel
theorem d_Mo_swap_25 : decode b_Mo_swap 25 = .ok (.bipush (-101), 2) := by decide +kernel
theorem d_Mo_swap_27 : decode b_Mo_swap 27 = .ok (.ireturn, 1) := by decide +kernel
theorem d_Mo_swap_28 : decode b_Mo_swap 28 = .ok (.aload_n 0, 1) := by decide +kernel
theorem d_Mo_swap_29 : decode b_Mo_swap 29 = .ok (.getfield 91, 3) := by decide +kernel
theorem d_Mo_swap_32 : decode b_Mo_swap 32 = .ok (.ifCond .ne 6, 3) := by decide +kernel
theorem d_Mo_swap_35 : decode b_Mo_swap 35 = .ok (.bipush (-103), 2) := by decide +kernel
theorem d_Mo_swap_37 : decode b_Mo_swap 37 = .ok (.ireturn, 1) := by decide +kernel
theorem d_Mo_swap_38 : decode b_Mo_swap 38 = .ok (.iconst 0, 1) := by decide +kernel
theorem d_Mo_swap_39 : decode b_Mo_swap 39 = .ok (.istore_n 3, 1) := by decide +kernel
theorem d_Mo_swap_40 : decode b_Mo_swap 40 = .ok (.sipush 3936, 3) := by decide +kernel
theorem d_Mo_swap_43 : decode b_Mo_swap 43 = .ok (.istore 4, 2) := by decide +kernel
theorem d_Mo_swap_45 : decode b_Mo_swap 45 = .ok (.iload 4, 2) := by decide +kernel
theorem d_Mo_swap_47 : decode b_Mo_swap 47 = .ok (.sipush 4428, 3) := by decide +kernel
theorem d_Mo_swap_50 : decode b_Mo_swap 50 = .ok (.if_icmp .ge 67, 3) := by decide +kernel
theorem d_Mo_swap_53 : decode b_Mo_swap 53 = .ok (.aload_n 0, 1) := by decide +kernel
theorem d_Mo_swap_54 : decode b_Mo_swap 54 = .ok (.getfield 13, 3) := by decide +kernel
theorem d_Mo_swap_57 : decode b_Mo_swap 57 = .ok (.iload 4, 2) := by decide +kernel
theorem d_Mo_swap_59 : decode b_Mo_swap 59 = .ok (.iaload, 1) := by decide +kernel
theorem d_Mo_swap_60 : decode b_Mo_swap 60 = .ok (.istore 5, 2) := by decide +kernel
theorem d_Mo_swap_62 : decode b_Mo_swap 62 = .ok (.iload 5, 2) := by decide +kernel
theorem d_Mo_swap_64 : decode b_Mo_swap 64 = .ok (.iload_n 1, 1) := by decide +kernel
theorem d_Mo_swap_65 : decode b_Mo_swap 65 = .ok (.if_icmp .eq 9, 3) := by decide +kernel
theorem d_Mo_swap_68 : decode b_Mo_swap 68 = .ok (.iload 5, 2) := by decide +kernel
theorem d_Mo_swap_70 : decode b_Mo_swap 70 = .ok (.iload_n 2, 1) := by decide +kernel
theorem d_Mo_swap_71 : decode b_Mo_swap 71 = .ok (.if_icmp .ne 9, 3) := by decide +kernel
theorem d_Mo_swap_74 : decode b_Mo_swap 74 = .ok (.iload_n 3, 1) := by decide +kernel
theorem d_Mo_swap_75 : decode b_Mo_swap 75 = .ok (.iconst 1, 1) := by decide +kernel
theorem d_Mo_swap_76 : decode b_Mo_swap 76 = .ok (.iadd, 1) := by decide +kernel
theorem d_Mo_swap_77 : decode b_Mo_swap 77 = .ok (.goto 4, 3) := by decide +kernel
theorem d_Mo_swap_80 : decode b_Mo_swap 80 = .ok (.iload_n 3, 1) := by decide +kernel
theorem d_Mo_swap_81 : decode b_Mo_swap 81 = .ok (.istore_n 3, 1) := by decide +kernel
theorem d_Mo_swap_82 : decode b_Mo_swap 82 = .ok (.aload_n 0, 1) := by decide +kernel
theorem d_Mo_swap_83 : decode b_Mo_swap 83 = .ok (.getfield 13, 3) := by decide +kernel
theorem d_Mo_swap_86 : decode b_Mo_swap 86 = .ok (.iload 4, 2) := by decide +kernel
theorem d_Mo_swap_88 : decode b_Mo_swap 88 = .ok (.iload 5, 2) := by decide +kernel
theorem d_Mo_swap_90 : decode b_Mo_swap 90 = .ok (.iload_n 1, 1) := by decide +kernel
theorem d_Mo_swap_91 : decode b_Mo_swap 91 = .ok (.if_icmp .ne 7, 3) := by decide +kernel
theorem d_Mo_swap_94 : decode b_Mo_swap 94 = .ok (.iload_n 2, 1) := by decide +kernel
theorem d_Mo_swap_95 : decode b_Mo_swap 95 = .ok (.goto 15, 3) := by decide +kernel
theorem d_Mo_swap_98 : decode b_Mo_swap 98 = .ok (.iload 5, 2) := by decide +kernel
theorem d_Mo_swap_100 : decode b_Mo_swap 100 = .ok (.iload_n 2, 1) := by decide +kernel
theorem d_Mo_swap_101 : decode b_Mo_swap 101 = .ok (.if_icmp .ne 7, 3) := by decide +kernel
theorem d_Mo_swap_104 : decode b_Mo_swap 104 = .ok (.iload_n 1, 1) := by decide +kernel
theorem d_Mo_swap_105 : decode b_Mo_swap 105 = .ok (.goto 5, 3) := by decide +kernel
theorem d_Mo_swap_108 : decode b_Mo_swap 108 = .ok (.iload 5, 2) := by decide +kernel
theorem d_Mo_swap_110 : decode b_Mo_swap 110 = .ok (.iastore, 1) := by decide +kernel
theorem d_Mo_swap_111 : decode b_Mo_swap 111 = .ok (.iinc 4 1, 3) := by decide +kernel
theorem d_Mo_swap_114 : decode b_Mo_swap 114 = .ok (.goto (-69), 3) := by decide +kernel
theorem d_Mo_swap_117 : decode b_Mo_swap 117 = .ok (.iload_n 3, 1) := by decide +kernel
theorem d_Mo_swap_118 : decode b_Mo_swap 118 = .ok (.ireturn, 1) := by decide +kernel
theorem d_Mo_overflow_0 : decode b_Mo_overflow 0 = .ok (.aload_n 0, 1) := by decide +kernel
theorem d_Mo_overflow_1 : decode b_Mo_overflow 1 = .ok (.iconst 0, 1) := by decide +kernel
theorem d_Mo_overflow_2 : decode b_Mo_overflow 2 = .ok (.putfield 48, 3) := by decide +kernel
theorem d_Mo_overflow_5 : decode b_Mo_overflow 5 = .ok (.iload_n 1, 1) := by decide +kernel
theorem d_Mo_overflow_6 : decode b_Mo_overflow 6 = .ok (.iconst 1, 1) := by decide +kernel
theorem d_Mo_overflow_7 : decode b_Mo_overflow 7 = .ok (.bipush 60, 2) := by decide +kernel
theorem d_Mo_overflow_9 : decode b_Mo_overflow 9 = .ok (.invokestatic 97, 3) := by decide +kernel
theorem d_Mo_overflow_12 : decode b_Mo_overflow 12 = .ok (.ifCond .ne 6, 3) := by decide +kernel
theorem d_Mo_overflow_15 : decode b_Mo_overflow 15 = .ok (.bipush (-101), 2) := by decide +kernel
theorem d_Mo_overflow_17 : decode b_Mo_overflow 17 = .ok (.ireturn, 1) := by decide +kernel
theorem d_Mo_overflow_18 : decode b_Mo_overflow 18 = .ok (.aload_n 0, 1) := by decide +kernel
theorem d_Mo_overflow_19 : decode b_Mo_overflow 19 = .ok (.getfield 91, 3) := by decide +kernel
theorem d_Mo_overflow_22 : decode b_Mo_overflow 22 = .ok (.ifCond .ne 6, 3) := by decide +kernel
theorem d_Mo_overflow_25 : decode b_Mo_overflow 25 = .ok (.bipush (-103), 2) := by decide +kernel
theorem d_Mo_overflow_27 : decode b_Mo_overflow 27 = .ok (.ireturn, 1) := by decide +kernel
theorem d_Mo_overflow_28 : decode b_Mo_overflow 28 = .ok (.iload_n 1, 1) := by decide +kernel
theorem d_Mo_overflow_29 : decode b_Mo_overflow 29 = .ok (.istore_n 2, 1) := by decide +kernel
theorem d_Mo_overflow_30 : decode b_Mo_overflow 30 = .ok (.iconst 0, 1) := by decide +kernel
theorem d_Mo_overflow_31 : decode b_Mo_overflow 31 = .ok (.istore_n 3, 1) := by decide +kernel
theorem d_Mo_overflow_32 : decode b_Mo_overflow 32 = .ok (.aload_n 0, 1) := by decide +kernel
theorem d_Mo_overflow_33 : decode b_Mo_overflow 33 = .ok (.getfield 29, 3) := by decide +kernel
theorem d_Mo_overflow_36 : decode b_Mo_overflow 36 = .ok (.iload_n 2, 1) := by decide +kernel
theorem d_Mo_overflow_37 : decode b_Mo_overflow 37 = .ok (.iaload, 1) := by decide +kernel
theorem d_Mo_overflow_38 : decode b_Mo_overflow 38 = .ok (.ifCond .le 22, 3) := by decide +kernel
theorem d_Mo_overflow_41 : decode b_Mo_overflow 41 = .ok (.iload_n 3, 1) := by decide +kernel
theorem d_Mo_overflow_42 : decode b_Mo_overflow 42 = .ok (.bipush 61, 2) := by decide +kernel
theorem d_Mo_overflow_44 : decode b_Mo_overflow 44 = .ok (.if_icmp .ge 16, 3) := by decide +kernel
theorem d_Mo_overflow_47 : decode b_Mo_overflow 47 = .ok (.aload_n 0, 1) := by decide +kernel
theorem d_Mo_overflow_48 : decode b_Mo_overflow 48 = .ok (.getfield 29, 3) := by decide +kernel
theorem d_Mo_overflow_51 : decode b_Mo_overflow 51 = .ok (.iload_n 2, 1) := by decide +kernel
theorem d_Mo_overflow_52 : decode b_Mo_overflow 52 = .ok (.iaload, 1) := by decide +kernel
theorem d_Mo_overflow_53 : decode b_Mo_overflow 53 = .ok (.istore_n 2, 1) := by decide +kernel
theorem d_Mo_overflow_54 : decode b_Mo_overflow 54 = .ok (.iinc 3 1, 3) := by decide +kernel
theorem d_Mo_overflow_57 : decode b_Mo_overflow 57 = .ok (.goto (-25), 3) := by decide +kernel
theorem d_Mo_overflow_60 : decode b_Mo_overflow 60 = .ok (.aload_n 0, 1) := by decide +kernel
theorem d_Mo_overflow_61 : decode b_Mo_overflow 61 = .ok (.getfield 29, 3) := by decide +kernel
theorem d_Mo_overflow_64 : decode b_Mo_overflow 64 = .ok (.iload_n 2, 1) := by decide +kernel
theorem d_Mo_overflow_65 : decode b_Mo_overflow 65 = .ok (.iaload, 1) := by decide +kernel
theorem d_Mo_overflow_66 : decode b_Mo_overflow 66 = .ok (.ifCond .le 7, 3) := by decide +kernel
theorem d_Mo_overflow_69 : decode b_Mo_overflow 69 = .ok (.iconst (-1), 1) := by decide +kernel
theorem d_Mo_overflow_70 : decode b_Mo_overflow 70 = .ok (.goto 4, 3) := by decide +kernel
theorem d_Mo_overflow_73 : decode b_Mo_overflow 73 = .ok (.iload_n 2, 1) := by decide +kernel
theorem d_Mo_overflow_74 : decode b_Mo_overflow 74 = .ok (.ireturn, 1) := by decide +kernel
theorem d_Mo_print_0 : decode b_Mo_print 0 = .ok (.aload_n 0, 1) := by decide +kernel
theorem d_Mo_print_1 : decode b_Mo_print 1 = .ok (.iconst 0, 1) := by decide +kernel
theorem d_Mo_print_2 : decode b_Mo_print 2 = .ok (.putfield 48, 3) := by decide +kernel
theorem d_Mo_print_5 : decode b_Mo_print 5 = .ok (.iconst 0, 1) := by decide +kernel
theorem d_Mo_print_6 : decode b_Mo_print 6 = .ok (.istore_n 2, 1) := by decide +kernel
theorem d_Mo_print_7 : decode b_Mo_print 7 = .ok (.iconst 1, 1) := by decide +kernel
theorem d_Mo_print_8 : decode b_Mo_print 8 = .ok (.istore_n 3, 1) := by decide +kernel
theorem d_Mo_print_9 : decode b_Mo_print 9 = .ok (.iload_n 3, 1) := by decide +kernel
theorem d_Mo_print_10 : decode b_Mo_print 10 = .ok (.bipush 61, 2) := by decide +kernel
theorem d_Mo_print_12 : decode b_Mo_print 12 = .ok (.if_icmp .ge 130, 3) := by decide +kernel
theorem d_Mo_print_15 : decode b_Mo_print 15 = .ok (.aload_n 0, 1) := by decide +kernel
theorem d_Mo_print_16 : decode b_Mo_print 16 = .ok (.getfield 91, 3) := by decide +kernel
theorem d_Mo_print_19 : decode b_Mo_print 19 = .ok (.ifCond .le 123, 3) := by decide +kernel
theorem d_Mo_print_22 : decode b_Mo_print 22 = .ok (.iload_n 2, 1) := by decide +kernel
theorem d_Mo_print_23 : decode b_Mo_print 23 = .ok (.istore 4, 2) := by decide +kernel
theorem d_Mo_print_25 : decode b_Mo_print 25 = .ok (.iconst 1, 1) := by decide +kernel
theorem d_Mo_print_26 : decode b_Mo_print 26 = .ok (.istore 5, 2) := by decide +kernel
theorem d_Mo_print_28 : decode b_Mo_print 28 = .ok (.iload 5, 2) := by decide +kernel
theorem d_Mo_print_30 : decode b_Mo_print 30 = .ok (.bipush 41, 2) := by decide +kernel
theorem d_Mo_print_32 : decode b_Mo_print 32 = .ok (.if_icmp .ge 87, 3) := by decide +kernel
theorem d_Mo_print_35 : decode b_Mo_print 35 = .ok (.aload_n 0, 1) := by decide +kernel
theorem d_Mo_print_36 : decode b_Mo_print 36 = .ok (.getfield 13, 3) := by decide +kernel
theorem d_Mo_print_39 : decode b_Mo_print 39 = .ok (.bipush 8, 2) := by decide +kernel
theorem d_Mo_print_41 : decode b_Mo_print 41 = .ok (.iload 5, 2) := by decide +kernel
theorem d_Mo_print_43 : decode b_Mo_print 43 = .ok (.iconst 0, 1) := by decide +kernel
theorem d_Mo_print_44 : decode b_Mo_print 44 = .ok (.iconst 0, 1) := by decide +kernel
theorem d_Mo_print_45 : decode b_Mo_print 45 = .ok (.invokestatic 75, 3) := by decide +kernel
theorem d_Mo_print_48 : decode b_Mo_print 48 = .ok (.iaload, 1) := by decide +kernel
theorem d_Mo_print_49 : decode b_Mo_print 49 = .ok (.iload_n 3, 1) := by decide +kernel
theorem d_Mo_print_50 : decode b_Mo_print 50 = .ok (.if_icmp .ne 63, 3) := by decide +kernel
theorem d_Mo_print_53 : decode b_Mo_print 53 = .ok (.iload_n 2, 1) := by decide +kernel
theorem d_Mo_print_54 : decode b_Mo_print 54 = .ok (.iload 4, 2) := by decide +kernel
theorem d_Mo_print_56 : decode b_Mo_print 56 = .ok (.if_icmp .ne 12, 3) := by decide +kernel
theorem d_Mo_print_59 : decode b_Mo_print 59 = .ok (.aload_n 0, 1) := by decide +kernel
theorem d_Mo_print_60 : decode b_Mo_print 60 = .ok (.iload_n 2, 1) := by decide +kernel
theorem d_Mo_print_61 : decode b_Mo_print 61 = .ok (.iload_n 3, 1) := by decide +kernel
theorem d_Mo_print_62 : decode b_Mo_print 62 = .ok (.invokevirtual 116, 3) := by decide +kernel
theorem d_Mo_print_65 : decode b_Mo_print 65 = .ok (.goto 4, 3) := by decide +kernel
theorem d_Mo_print_68 : decode b_Mo_print 68 = .ok (.iload_n 2, 1) := by decide +kernel
theorem d_Mo_print_69 : decode b_Mo_print 69 = .ok (.istore_n 2, 1) := by decide +kernel
theorem d_Mo_print_70 : decode b_Mo_print 70 = .ok (.aload_n 0, 1) := by decide +kernel
theorem d_Mo_print_71 : decode b_Mo_print 71 = .ok (.getfield 41, 3) := by decide +kernel
theorem d_Mo_print_74 : decode b_Mo_print 74 = .ok (.iload_n 2, 1) := by decide +kernel
theorem d_Mo_print_75 : decode b_Mo_print 75 = .ok (.iload_n 2, 1) := by decide +kernel
theorem d_Mo_print_76 : decode b_Mo_print 76 = .ok (.iload 4, 2) := by decide +kernel
theorem d_Mo_print_78 : decode b_Mo_print 78 = .ok (.iconst 3, 1) := by decide +kernel
theorem d_Mo_print_79 : decode b_Mo_print 79 = .ok (.iadd, 1) := by decide +kernel
theorem d_Mo_print_80 : decode b_Mo_print 80 = .ok (.if_icmp .ge 20, 3) := by decide +kernel
theorem d_Mo_print_83 : decode b_Mo_print 83 = .ok (.aload_n 0, 1) := by decide +kernel
theorem d_Mo_print_84 : decode b_Mo_print 84 = .ok (.iload 4, 2) := by decide +kernel
theorem d_Mo_print_86 : decode b_Mo_print 86 = .ok (.iload_n 2, 1) := by decide +kernel
theorem d_Mo_print_87 : decode b_Mo_print 87 = .ok (.bipush 58, 2) := by decide +kernel
theorem d_Mo_print_89 : decode b_Mo_print 89 = .ok (.invokevirtual 120, 3) := by decide +kernel
theorem d_Mo_print_92 : decode b_Mo_print 92 = .ok (.ifCond .ne 8, 3) := by decide +kernel
theorem d_Mo_print_95 : decode b_Mo_print 95 = .ok (.bipush 58, 2) := by decide +kernel
theorem d_Mo_print_97 : decode b_Mo_print 97 = .ok (.goto 5, 3) := by decide +kernel
theorem d_Mo_print_100 : decode b_Mo_print 100 = .ok (.bipush 44, 2) := by decide +kernel
theorem d_Mo_print_102 : decode b_Mo_print 102 = .ok (.iastore, 1) := by decide +kernel
theorem d_Mo_print_103 : decode b_Mo_print 103 = .ok (.aload_n 0, 1) := by decide +kernel
theorem d_Mo_print_104 : decode b_Mo_print 104 = .ok (.iload_n 2, 1) := by decide +kernel
theorem d_Mo_print_105 : decode b_Mo_print 105 = .ok (.iconst 1, 1) := by decide +kernel
theorem d_Mo_print_106 : decode b_Mo_print 106 = .ok (.iadd, 1) := by decide +kernel
theorem d_Mo_print_107 : decode b_Mo_print 107 = .ok (.iload 5, 2) := by decide +kernel
theorem d_Mo_print_109 : decode b_Mo_print 109 = .ok (.invokevirtual 116, 3) := by decide +kernel
theorem d_Mo_print_112 : decode b_Mo_print 112 = .ok (.istore_n 2, 1) := by decide +kernel
theorem d_Mo_print_113 : decode b_Mo_print 113 = .ok (.iinc 5 1, 3) := by decide +kernel
theorem d_Mo_print_116 : decode b_Mo_print 116 = .ok (.goto (-88), 3) := by decide +kernel
theorem d_Mo_print_119 : decode b_Mo_print 119 = .ok (.iload_n 2, 1) := by decide +kernel
theorem d_Mo_print_120 : decode b_Mo_print 120 = .ok (.iload 4, 2) := by decide +kernel
theorem d_Mo_print_122 : decode b_Mo_print 122 = .ok (.if_icmp .le 14, 3) := by decide +kernel
theorem d_Mo_print_125 : decode b_Mo_print 125 = .ok (.aload_n 0, 1) := by decide +kernel
theorem d_Mo_print_126 : decode b_Mo_print 126 = .ok (.getfield 41, 3) := by decide +kernel
theorem d_Mo_print_129 : decode b_Mo_print 129 = .ok (.iload_n 2, 1) := by decide +kernel
theorem d_Mo_print_130 : decode b_Mo_print 130 = .ok (.bipush 59, 2) := by decide +kernel
theorem d_Mo_print_132 : decode b_Mo_print 132 = .ok (.iastore, 1) := by decide +kernel
theorem d_Mo_print_133 : decode b_Mo_print 133 = .ok (.iinc 2 1, 3) := by decide +kernel
theorem d_Mo_print_136 : decode b_Mo_print 136 = .ok (.iinc 3 1, 3) := by decide +kernel
theorem d_Mo_print_139 : decode b_Mo_print 139 = .ok (.goto (-130), 3) := by decide +kernel
theorem d_Mo_print_142 : decode b_Mo_print 142 = .ok (.iload_n 1, 1) := by decide +kernel
theorem d_Mo_print_143 : decode b_Mo_print 143 = .ok (.ifCond .lt 8, 3) := by decide +kernel
theorem d_Mo_print_146 : decode b_Mo_print 146 = .ok (.iload_n 1, 1) := by decide +kernel
theorem d_Mo_print_147 : decode b_Mo_print 147 = .ok (.iload_n 2, 1) := by decide +kernel
theorem d_Mo_print_148 : decode b_Mo_print 148 = .ok (.if_icmp .lt 7, 3) := by decide +kernel
theorem d_Mo_print_151 : decode b_Mo_print 151 = .ok (.iconst 0, 1) := by decide +kernel
theorem d_Mo_print_152 : decode b_Mo_print 152 = .ok (.goto 9, 3) := by decide +kernel
theorem d_Mo_print_155 : decode b_Mo_print 155 = .ok (.aload_n 0, 1) := by decide +kernel
theorem d_Mo_print_156 : decode b_Mo_print 156 = .ok (.getfield 41, 3) := by decide +kernel
theorem d_Mo_print_159 : decode b_Mo_print 159 = .ok (.iload_n 1, 1) := by decide +kernel
theorem d_Mo_print_160 : decode b_Mo_print 160 = .ok (.iaload, 1) := by decide +kernel
theorem d_Mo_print_161 : decode b_Mo_print 161 = .ok (.ireturn, 1) := by decide +kernel
theorem d_Mo_write_0 : decode b_Mo_write 0 = .ok (.iload_n 1, 1) := by decide +kernel
theorem d_Mo_write_1 : decode b_Mo_write 1 = .ok (.istore_n 3, 1) := by decide +kernel
theorem d_Mo_write_2 : decode b_Mo_write 2 = .ok (.iload_n 2, 1) := by decide +kernel
theorem d_Mo_write_3 : decode b_Mo_write 3 = .ok (.bipush 9, 2) := by decide +kernel
theorem d_Mo_write_5 : decode b_Mo_write 5 = .ok (.if_icmp .le 19, 3) := by decide +kernel
theorem d_Mo_write_8 : decode b_Mo_write 8 = .ok (.aload_n 0, 1) := by decide +kernel
theorem d_Mo_write_9 : decode b_Mo_write 9 = .ok (.getfield 41, 3) := by decide +kernel
theorem d_Mo_write_12 : decode b_Mo_write 12 = .ok (.iload_n 3, 1) := by decide +kernel
theorem d_Mo_write_13 : decode b_Mo_write 13 = .ok (.bipush 48, 2) := by decide +kernel
theorem d_Mo_write_15 : decode b_Mo_write 15 = .ok (.iload_n 2, 1) := by decide +kernel
theorem d_Mo_write_16 : decode b_Mo_write 16 = .ok (.bipush 10, 2) := by decide +kernel
theorem d_Mo_write_18 : decode b_Mo_write 18 = .ok (.idiv, 1) := by decide +kernel
theorem d_Mo_write_19 : decode b_Mo_write 19 = .ok (.iadd, 1) := by decide +kernel
theorem d_Mo_write_20 : decode b_Mo_write 20 = .ok (.iastore, 1) := by decide +kernel
theorem d_Mo_write_21 : decode b_Mo_write 21 = .ok (.iinc 3 1, 3) := by decide +kernel
theorem d_Mo_write_24 : decode b_Mo_write 24 = .ok (.aload_n 0, 1) := by decide +kernel
theorem d_Mo_write_25 : decode b_Mo_write 25 = .ok (.getfield 41, 3) := by decide +kernel
theorem d_Mo_write_28 : decode b_Mo_write 28 = .ok (.iload_n 3, 1) := by decide +kernel
theorem d_Mo_write_29 : decode b_Mo_write 29 = .ok (.bipush 48, 2) := by decide +kernel
theorem d_Mo_write_31 : decode b_Mo_write 31 = .ok (.iload_n 2, 1) := by decide +kernel
theorem d_Mo_write_32 : decode b_Mo_write 32 = .ok (.bipush 10, 2) := by decide +kernel
theorem d_Mo_write_34 : decode b_Mo_write 34 = .ok (.irem, 1) := by decide +kernel
theorem d_Mo_write_35 : decode b_Mo_write 35 = .ok (.iadd, 1) := by decide +kernel
theorem d_Mo_write_36 : decode b_Mo_write 36 = .ok (.iastore, 1) := by decide +kernel
theorem d_Mo_write_37 : decode b_Mo_write 37 = .ok (.iload_n 3, 1) := by decide +kernel
theorem d_Mo_write_38 : decode b_Mo_write 38 = .ok (.iconst 1, 1) := by decide +kernel
theorem d_Mo_write_39 : decode b_Mo_write 39 = .ok (.iadd, 1) := by decide +kernel
theorem d_Mo_write_40 : decode b_Mo_write 40 = .ok (.ireturn, 1) := by decide +kernel
theorem d_Mo_has_0 : decode b_Mo_has 0 = .ok (.iconst 0, 1) := by decide +kernel
theorem d_Mo_has_1 : decode b_Mo_has 1 = .ok (.istore 4, 2) := by decide +kernel
theorem d_Mo_has_3 : decode b_Mo_has 3 = .ok (.iload_n 1, 1) := by decide +kernel
theorem d_Mo_has_4 : decode b_Mo_has 4 = .ok (.istore 5, 2) := by decide +kernel
theorem d_Mo_has_6 : decode b_Mo_has 6 = .ok (.iload 5, 2) := by decide +kernel
theorem d_Mo_has_8 : decode b_Mo_has 8 = .ok (.iload_n 2, 1) := by decide +kernel
theorem d_Mo_has_9 : decode b_Mo_has 9 = .ok (.if_icmp .ge 32, 3) := by decide +kernel
theorem d_Mo_has_12 : decode b_Mo_has 12 = .ok (.iload 4, 2) := by decide +kernel
theorem d_Mo_has_14 : decode b_Mo_has 14 = .ok (.ifCond .ne 14, 3) := by decide +kernel
theorem d_Mo_has_17 : decode b_Mo_has 17 = .ok (.aload_n 0, 1) := by decide +kernel
theorem d_Mo_has_18 : decode b_Mo_has 18 = .ok (.getfield 41, 3) := by decide +kernel
theorem d_Mo_has_21 : decode b_Mo_has 21 = .ok (.iload 5, 2) := by decide +kernel
theorem d_Mo_has_23 : decode b_Mo_has 23 = .ok (.iaload, 1) := by decide +kernel
theorem d_Mo_has_24 : decode b_Mo_has 24 = .ok (.iload_n 3, 1) := by decide +kernel
theorem d_Mo_has_25 : decode b_Mo_has 25 = .ok (.if_icmp .ne 7, 3) := by decide +kernel
theorem d_Mo_has_28 : decode b_Mo_has 28 = .ok (.iconst 1, 1) := by decide +kernel
theorem d_Mo_has_29 : decode b_Mo_has 29 = .ok (.goto 4, 3) := by decide +kernel
theorem d_Mo_has_32 : decode b_Mo_has 32 = .ok (.iconst 0, 1) := by decide +kernel
theorem d_Mo_has_33 : decode b_Mo_has 33 = .ok (.istore 4, 2) := by decide +kernel
theorem d_Mo_has_35 : decode b_Mo_has 35 = .ok (.iinc 5 1, 3) := by decide +kernel
theorem d_Mo_has_38 : decode b_Mo_has 38 = .ok (.goto (-32), 3) := by decide +kernel
theorem d_Mo_has_41 : decode b_Mo_has 41 = .ok (.iload 4, 2) := by decide +kernel
theorem d_Mo_has_43 : decode b_Mo_has 43 = .ok (.ireturn, 1) := by decide +kernel
