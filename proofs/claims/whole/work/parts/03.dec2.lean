theorem dX11_init_0 : decode cX11_init 0 = .ok (.aload_n 0, 1) := by decide +kernel
theorem dX11_init_1 : decode cX11_init 1 = .ok (.invokespecial 1, 3) := by decide +kernel
theorem dX11_init_4 : decode cX11_init 4 = .ok (.aload_n 0, 1) := by decide +kernel
theorem dX11_init_5 : decode cX11_init 5 = .ok (.bipush 10, 2) := by decide +kernel
theorem dX11_init_7 : decode cX11_init 7 = .ok (.putfield 7, 3) := by decide +kernel
theorem dX11_init_10 : decode cX11_init 10 = .ok (.aload_n 0, 1) := by decide +kernel
theorem dX11_init_11 : decode cX11_init 11 = .ok (.bipush 6, 2) := by decide +kernel
theorem dX11_init_13 : decode cX11_init 13 = .ok (.newarray .int, 2) := by decide +kernel
theorem dX11_init_15 : decode cX11_init 15 = .ok (.putfield 13, 3) := by decide +kernel
theorem dX11_init_18 : decode cX11_init 18 = .ok (.aload_n 0, 1) := by decide +kernel
theorem dX11_init_19 : decode cX11_init 19 = .ok (.bipush 6, 2) := by decide +kernel
theorem dX11_init_21 : decode cX11_init 21 = .ok (.newarray .int, 2) := by decide +kernel
theorem dX11_init_23 : decode cX11_init 23 = .ok (.putfield 17, 3) := by decide +kernel
theorem dX11_init_26 : decode cX11_init 26 = .ok (.aload_n 0, 1) := by decide +kernel
theorem dX11_init_27 : decode cX11_init 27 = .ok (.bipush 6, 2) := by decide +kernel
theorem dX11_init_29 : decode cX11_init 29 = .ok (.newarray .int, 2) := by decide +kernel
theorem dX11_init_31 : decode cX11_init 31 = .ok (.putfield 20, 3) := by decide +kernel
theorem dX11_init_34 : decode cX11_init 34 = .ok (.aload_n 0, 1) := by decide +kernel
theorem dX11_init_35 : decode cX11_init 35 = .ok (.bipush 6, 2) := by decide +kernel
theorem dX11_init_37 : decode cX11_init 37 = .ok (.newarray .int, 2) := by decide +kernel
theorem dX11_init_39 : decode cX11_init 39 = .ok (.putfield 23, 3) := by decide +kernel
theorem dX11_init_42 : decode cX11_init 42 = .ok (.aload_n 0, 1) := by decide +kernel
theorem dX11_init_43 : decode cX11_init 43 = .ok (.bipush 6, 2) := by decide +kernel
theorem dX11_init_45 : decode cX11_init 45 = .ok (.newarray .int, 2) := by decide +kernel
theorem dX11_init_47 : decode cX11_init 47 = .ok (.putfield 26, 3) := by decide +kernel
theorem dX11_init_50 : decode cX11_init 50 = .ok (.aload_n 0, 1) := by decide +kernel
theorem dX11_init_51 : decode cX11_init 51 = .ok (.bipush 6, 2) := by decide +kernel
theorem dX11_init_53 : decode cX11_init 53 = .ok (.newarray .int, 2) := by decide +kernel
theorem dX11_init_55 : decode cX11_init 55 = .ok (.putfield 29, 3) := by decide +kernel
theorem dX11_init_58 : decode cX11_init 58 = .ok (.aload_n 0, 1) := by decide +kernel
theorem dX11_init_59 : decode cX11_init 59 = .ok (.bipush 6, 2) := by decide +kernel
theorem dX11_init_61 : decode cX11_init 61 = .ok (.newarray .int, 2) := by decide +kernel
theorem dX11_init_63 : decode cX11_init 63 = .ok (.putfield 32, 3) := by decide +kernel
theorem dX11_init_66 : decode cX11_init 66 = .ok (.aload_n 0, 1) := by decide +kernel
theorem dX11_init_67 : decode cX11_init 67 = .ok (.bipush 6, 2) := by decide +kernel
theorem dX11_init_69 : decode cX11_init 69 = .ok (.newarray .int, 2) := by decide +kernel
theorem dX11_init_71 : decode cX11_init 71 = .ok (.putfield 35, 3) := by decide +kernel
theorem dX11_init_74 : decode cX11_init 74 = .ok (.aload_n 0, 1) := by decide +kernel
theorem dX11_init_75 : decode cX11_init 75 = .ok (.bipush 6, 2) := by decide +kernel
theorem dX11_init_77 : decode cX11_init 77 = .ok (.newarray .int, 2) := by decide +kernel
theorem dX11_init_79 : decode cX11_init 79 = .ok (.dup, 1) := by decide +kernel
theorem dX11_init_80 : decode cX11_init 80 = .ok (.iconst 0, 1) := by decide +kernel
theorem dX11_init_81 : decode cX11_init 81 = .ok (.bipush (-9), 2) := by decide +kernel
theorem dX11_init_83 : decode cX11_init 83 = .ok (.iastore, 1) := by decide +kernel
theorem dX11_init_84 : decode cX11_init 84 = .ok (.dup, 1) := by decide +kernel
theorem dX11_init_85 : decode cX11_init 85 = .ok (.iconst 1, 1) := by decide +kernel
theorem dX11_init_86 : decode cX11_init 86 = .ok (.bipush (-9), 2) := by decide +kernel
theorem dX11_init_88 : decode cX11_init 88 = .ok (.iastore, 1) := by decide +kernel
theorem dX11_init_89 : decode cX11_init 89 = .ok (.dup, 1) := by decide +kernel
theorem dX11_init_90 : decode cX11_init 90 = .ok (.iconst 2, 1) := by decide +kernel
theorem dX11_init_91 : decode cX11_init 91 = .ok (.bipush (-9), 2) := by decide +kernel
theorem dX11_init_93 : decode cX11_init 93 = .ok (.iastore, 1) := by decide +kernel
theorem dX11_init_94 : decode cX11_init 94 = .ok (.dup, 1) := by decide +kernel
theorem dX11_init_95 : decode cX11_init 95 = .ok (.iconst 3, 1) := by decide +kernel
theorem dX11_init_96 : decode cX11_init 96 = .ok (.bipush (-9), 2) := by decide +kernel
theorem dX11_init_98 : decode cX11_init 98 = .ok (.iastore, 1) := by decide +kernel
theorem dX11_init_99 : decode cX11_init 99 = .ok (.dup, 1) := by decide +kernel
theorem dX11_init_100 : decode cX11_init 100 = .ok (.iconst 4, 1) := by decide +kernel
theorem dX11_init_101 : decode cX11_init 101 = .ok (.bipush (-9), 2) := by decide +kernel
theorem dX11_init_103 : decode cX11_init 103 = .ok (.iastore, 1) := by decide +kernel
theorem dX11_init_104 : decode cX11_init 104 = .ok (.dup, 1) := by decide +kernel
theorem dX11_init_105 : decode cX11_init 105 = .ok (.iconst 5, 1) := by decide +kernel
theorem dX11_init_106 : decode cX11_init 106 = .ok (.bipush (-9), 2) := by decide +kernel
theorem dX11_init_108 : decode cX11_init 108 = .ok (.iastore, 1) := by decide +kernel
theorem dX11_init_109 : decode cX11_init 109 = .ok (.putfield 38, 3) := by decide +kernel
theorem dX11_init_112 : decode cX11_init 112 = .ok (.aload_n 0, 1) := by decide +kernel
theorem dX11_init_113 : decode cX11_init 113 = .ok (.bipush 6, 2) := by decide +kernel
theorem dX11_init_115 : decode cX11_init 115 = .ok (.newarray .int, 2) := by decide +kernel
theorem dX11_init_117 : decode cX11_init 117 = .ok (.putfield 41, 3) := by decide +kernel
theorem dX11_init_120 : decode cX11_init 120 = .ok (.aload_n 0, 1) := by decide +kernel
theorem dX11_init_121 : decode cX11_init 121 = .ok (.bipush 6, 2) := by decide +kernel
theorem dX11_init_123 : decode cX11_init 123 = .ok (.newarray .int, 2) := by decide +kernel
theorem dX11_init_125 : decode cX11_init 125 = .ok (.putfield 44, 3) := by decide +kernel
theorem dX11_init_128 : decode cX11_init 128 = .ok (.aload_n 0, 1) := by decide +kernel
theorem dX11_init_129 : decode cX11_init 129 = .ok (.bipush 6, 2) := by decide +kernel
theorem dX11_init_131 : decode cX11_init 131 = .ok (.newarray .int, 2) := by decide +kernel
theorem dX11_init_133 : decode cX11_init 133 = .ok (.putfield 47, 3) := by decide +kernel
theorem dX11_init_136 : decode cX11_init 136 = .ok (.aload_n 0, 1) := by decide +kernel
theorem dX11_init_137 : decode cX11_init 137 = .ok (.sipush 2886, 3) := by decide +kernel
theorem dX11_init_140 : decode cX11_init 140 = .ok (.newarray .int, 2) := by decide +kernel
theorem dX11_init_142 : decode cX11_init 142 = .ok (.putfield 50, 3) := by decide +kernel
theorem dX11_init_145 : decode cX11_init 145 = .ok (.aload_n 0, 1) := by decide +kernel
theorem dX11_init_146 : decode cX11_init 146 = .ok (.iconst 4, 1) := by decide +kernel
theorem dX11_init_147 : decode cX11_init 147 = .ok (.newarray .int, 2) := by decide +kernel
theorem dX11_init_149 : decode cX11_init 149 = .ok (.putfield 53, 3) := by decide +kernel
theorem dX11_init_152 : decode cX11_init 152 = .ok (.aload_n 0, 1) := by decide +kernel
theorem dX11_init_153 : decode cX11_init 153 = .ok (.iconst 4, 1) := by decide +kernel
theorem dX11_init_154 : decode cX11_init 154 = .ok (.newarray .int, 2) := by decide +kernel
theorem dX11_init_156 : decode cX11_init 156 = .ok (.putfield 56, 3) := by decide +kernel
theorem dX11_init_159 : decode cX11_init 159 = .ok (.aload_n 0, 1) := by decide +kernel
theorem dX11_init_160 : decode cX11_init 160 = .ok (.iconst 4, 1) := by decide +kernel
theorem dX11_init_161 : decode cX11_init 161 = .ok (.newarray .int, 2) := by decide +kernel
theorem dX11_init_163 : decode cX11_init 163 = .ok (.putfield 59, 3) := by decide +kernel
theorem dX11_init_166 : decode cX11_init 166 = .ok (.aload_n 0, 1) := by decide +kernel
theorem dX11_init_167 : decode cX11_init 167 = .ok (.iconst 4, 1) := by decide +kernel
theorem dX11_init_168 : decode cX11_init 168 = .ok (.newarray .int, 2) := by decide +kernel
theorem dX11_init_170 : decode cX11_init 170 = .ok (.putfield 62, 3) := by decide +kernel
theorem dX11_init_173 : decode cX11_init 173 = .ok (.aload_n 0, 1) := by decide +kernel
theorem dX11_init_174 : decode cX11_init 174 = .ok (.iconst 4, 1) := by decide +kernel
theorem dX11_init_175 : decode cX11_init 175 = .ok (.newarray .int, 2) := by decide +kernel
theorem dX11_init_177 : decode cX11_init 177 = .ok (.putfield 65, 3) := by decide +kernel
theorem dX11_init_180 : decode cX11_init 180 = .ok (.aload_n 0, 1) := by decide +kernel
theorem dX11_init_181 : decode cX11_init 181 = .ok (.sipush 800, 3) := by decide +kernel
theorem dX11_init_184 : decode cX11_init 184 = .ok (.newarray .int, 2) := by decide +kernel
theorem dX11_init_186 : decode cX11_init 186 = .ok (.putfield 68, 3) := by decide +kernel
theorem dX11_init_189 : decode cX11_init 189 = .ok (.aload_n 0, 1) := by decide +kernel
theorem dX11_init_190 : decode cX11_init 190 = .ok (.bipush 100, 2) := by decide +kernel
theorem dX11_init_192 : decode cX11_init 192 = .ok (.newarray .int, 2) := by decide +kernel
theorem dX11_init_194 : decode cX11_init 194 = .ok (.putfield 71, 3) := by decide +kernel
theorem dX11_init_197 : decode cX11_init 197 = .ok (.aload_n 0, 1) := by decide +kernel
theorem dX11_init_198 : decode cX11_init 198 = .ok (.bipush 100, 2) := by decide +kernel
theorem dX11_init_200 : decode cX11_init 200 = .ok (.newarray .int, 2) := by decide +kernel
theorem dX11_init_202 : decode cX11_init 202 = .ok (.putfield 74, 3) := by decide +kernel
theorem dX11_init_205 : decode cX11_init 205 = .ok (.aload_n 0, 1) := by decide +kernel
theorem dX11_init_206 : decode cX11_init 206 = .ok (.bipush 20, 2) := by decide +kernel
theorem dX11_init_208 : decode cX11_init 208 = .ok (.newarray .int, 2) := by decide +kernel
theorem dX11_init_210 : decode cX11_init 210 = .ok (.putfield 77, 3) := by decide +kernel
theorem dX11_init_213 : decode cX11_init 213 = .ok (.aload_n 0, 1) := by decide +kernel
theorem dX11_init_214 : decode cX11_init 214 = .ok (.bipush 20, 2) := by decide +kernel
theorem dX11_init_216 : decode cX11_init 216 = .ok (.newarray .int, 2) := by decide +kernel
theorem dX11_init_218 : decode cX11_init 218 = .ok (.putfield 80, 3) := by decide +kernel
theorem dX11_init_221 : decode cX11_init 221 = .ok (.aload_n 0, 1) := by decide +kernel
theorem dX11_init_222 : decode cX11_init 222 = .ok (.bipush 20, 2) := by decide +kernel
theorem dX11_init_224 : decode cX11_init 224 = .ok (.newarray .int, 2) := by decide +kernel
theorem dX11_init_226 : decode cX11_init 226 = .ok (.putfield 83, 3) := by decide +kernel
theorem dX11_init_229 : decode cX11_init 229 = .ok (.aload_n 0, 1) := by decide +kernel
theorem dX11_init_230 : decode cX11_init 230 = .ok (.bipush 20, 2) := by decide +kernel
theorem dX11_init_232 : decode cX11_init 232 = .ok (.newarray .int, 2) := by decide +kernel
theorem dX11_init_234 : decode cX11_init 234 = .ok (.putfield 86, 3) := by decide +kernel
theorem dX11_init_237 : decode cX11_init 237 = .ok (.aload_n 0, 1) := by decide +kernel
theorem dX11_init_238 : decode cX11_init 238 = .ok (.bipush 7, 2) := by decide +kernel
theorem dX11_init_240 : decode cX11_init 240 = .ok (.newarray .int, 2) := by decide +kernel
theorem dX11_init_242 : decode cX11_init 242 = .ok (.putfield 89, 3) := by decide +kernel
theorem dX11_init_245 : decode cX11_init 245 = .ok (.aload_n 0, 1) := by decide +kernel
theorem dX11_init_246 : decode cX11_init 246 = .ok (.iconst 0, 1) := by decide +kernel
theorem dX11_init_247 : decode cX11_init 247 = .ok (.putfield 92, 3) := by decide +kernel
theorem dX11_init_250 : decode cX11_init 250 = .ok (.return_, 1) := by decide +kernel
theorem dX11_isIn_0 : decode cX11_isIn 0 = .ok (.iload_n 0, 1) := by decide +kernel
theorem dX11_isIn_1 : decode cX11_isIn 1 = .ok (.iload_n 1, 1) := by decide +kernel
theorem dX11_isIn_2 : decode cX11_isIn 2 = .ok (.if_icmp .lt 12, 3) := by decide +kernel
theorem dX11_isIn_5 : decode cX11_isIn 5 = .ok (.iload_n 0, 1) := by decide +kernel
theorem dX11_isIn_6 : decode cX11_isIn 6 = .ok (.iload_n 2, 1) := by decide +kernel
theorem dX11_isIn_7 : decode cX11_isIn 7 = .ok (.if_icmp .gt 7, 3) := by decide +kernel
theorem dX11_isIn_10 : decode cX11_isIn 10 = .ok (.iconst 1, 1) := by decide +kernel
theorem dX11_isIn_11 : decode cX11_isIn 11 = .ok (.goto 4, 3) := by decide +kernel
theorem dX11_isIn_14 : decode cX11_isIn 14 = .ok (.iconst 0, 1) := by decide +kernel
theorem dX11_isIn_15 : decode cX11_isIn 15 = .ok (.ireturn, 1) := by decide +kernel
theorem dX11_isGarden_0 : decode cX11_isGarden 0 = .ok (.iload_n 1, 1) := by decide +kernel
theorem dX11_isGarden_1 : decode cX11_isGarden 1 = .ok (.iconst 0, 1) := by decide +kernel
theorem dX11_isGarden_2 : decode cX11_isGarden 2 = .ok (.aload_n 0, 1) := by decide +kernel
theorem dX11_isGarden_3 : decode cX11_isGarden 3 = .ok (.getfield 95, 3) := by decide +kernel
theorem dX11_isGarden_6 : decode cX11_isGarden 6 = .ok (.iconst 1, 1) := by decide +kernel
theorem dX11_isGarden_7 : decode cX11_isGarden 7 = .ok (.isub, 1) := by decide +kernel
theorem dX11_isGarden_8 : decode cX11_isGarden 8 = .ok (.invokestatic 98, 3) := by decide +kernel
theorem dX11_isGarden_11 : decode cX11_isGarden 11 = .ok (.ireturn, 1) := by decide +kernel
theorem dX11_isGang_0 : decode cX11_isGang 0 = .ok (.iload_n 1, 1) := by decide +kernel
theorem dX11_isGang_1 : decode cX11_isGang 1 = .ok (.iconst 0, 1) := by decide +kernel
theorem dX11_isGang_2 : decode cX11_isGang 2 = .ok (.aload_n 0, 1) := by decide +kernel
theorem dX11_isGang_3 : decode cX11_isGang 3 = .ok (.getfield 102, 3) := by decide +kernel
theorem dX11_isGang_6 : decode cX11_isGang 6 = .ok (.iconst 1, 1) := by decide +kernel
theorem dX11_isGang_7 : decode cX11_isGang 7 = .ok (.isub, 1) := by decide +kernel
theorem dX11_isGang_8 : decode cX11_isGang 8 = .ok (.invokestatic 98, 3) := by decide +kernel
theorem dX11_isGang_11 : decode cX11_isGang 11 = .ok (.ireturn, 1) := by decide +kernel
theorem dX11_isKiln_0 : decode cX11_isKiln 0 = .ok (.iload_n 1, 1) := by decide +kernel
theorem dX11_isKiln_1 : decode cX11_isKiln 1 = .ok (.iconst 0, 1) := by decide +kernel
theorem dX11_isKiln_2 : decode cX11_isKiln 2 = .ok (.aload_n 0, 1) := by decide +kernel
theorem dX11_isKiln_3 : decode cX11_isKiln 3 = .ok (.getfield 105, 3) := by decide +kernel
theorem dX11_isKiln_6 : decode cX11_isKiln 6 = .ok (.iconst 1, 1) := by decide +kernel
theorem dX11_isKiln_7 : decode cX11_isKiln 7 = .ok (.isub, 1) := by decide +kernel
theorem dX11_isKiln_8 : decode cX11_isKiln 8 = .ok (.invokestatic 98, 3) := by decide +kernel
theorem dX11_isKiln_11 : decode cX11_isKiln 11 = .ok (.ireturn, 1) := by decide +kernel
theorem dX11_garden_0 : decode cX11_garden 0 = .ok (.iload_n 1, 1) := by decide +kernel
theorem dX11_garden_1 : decode cX11_garden 1 = .ok (.iconst 1, 1) := by decide +kernel
theorem dX11_garden_2 : decode cX11_garden 2 = .ok (.sipush 5000, 3) := by decide +kernel
theorem dX11_garden_5 : decode cX11_garden 5 = .ok (.invokestatic 98, 3) := by decide +kernel
theorem dX11_garden_8 : decode cX11_garden 8 = .ok (.ifCond .eq 23, 3) := by decide +kernel
theorem dX11_garden_11 : decode cX11_garden 11 = .ok (.iload_n 2, 1) := by decide +kernel
theorem dX11_garden_12 : decode cX11_garden 12 = .ok (.iconst 0, 1) := by decide +kernel
theorem dX11_garden_13 : decode cX11_garden 13 = .ok (.bipush 40, 2) := by decide +kernel
theorem dX11_garden_15 : decode cX11_garden 15 = .ok (.invokestatic 98, 3) := by decide +kernel
theorem dX11_garden_18 : decode cX11_garden 18 = .ok (.ifCond .eq 13, 3) := by decide +kernel
theorem dX11_garden_21 : decode cX11_garden 21 = .ok (.iload_n 3, 1) := by decide +kernel
theorem dX11_garden_22 : decode cX11_garden 22 = .ok (.iload_n 2, 1) := by decide +kernel
theorem dX11_garden_23 : decode cX11_garden 23 = .ok (.bipush 40, 2) := by decide +kernel
theorem dX11_garden_25 : decode cX11_garden 25 = .ok (.invokestatic 98, 3) := by decide +kernel
theorem dX11_garden_28 : decode cX11_garden 28 = .ok (.ifCond .ne 5, 3) := by decide +kernel
theorem dX11_garden_31 : decode cX11_garden 31 = .ok (.iconst (-1), 1) := by decide +kernel
theorem dX11_garden_32 : decode cX11_garden 32 = .ok (.ireturn, 1) := by decide +kernel
theorem dX11_garden_33 : decode cX11_garden 33 = .ok (.aload_n 0, 1) := by decide +kernel
theorem dX11_garden_34 : decode cX11_garden 34 = .ok (.getfield 95, 3) := by decide +kernel
theorem dX11_garden_37 : decode cX11_garden 37 = .ok (.bipush 6, 2) := by decide +kernel
theorem dX11_garden_39 : decode cX11_garden 39 = .ok (.if_icmp .ne 6, 3) := by decide +kernel
theorem dX11_garden_42 : decode cX11_garden 42 = .ok (.bipush (-3), 2) := by decide +kernel
theorem dX11_garden_44 : decode cX11_garden 44 = .ok (.ireturn, 1) := by decide +kernel
theorem dX11_garden_45 : decode cX11_garden 45 = .ok (.aload_n 0, 1) := by decide +kernel
theorem dX11_garden_46 : decode cX11_garden 46 = .ok (.getfield 13, 3) := by decide +kernel
theorem dX11_garden_49 : decode cX11_garden 49 = .ok (.aload_n 0, 1) := by decide +kernel
theorem dX11_garden_50 : decode cX11_garden 50 = .ok (.getfield 95, 3) := by decide +kernel
theorem dX11_garden_53 : decode cX11_garden 53 = .ok (.iload_n 1, 1) := by decide +kernel
theorem dX11_garden_54 : decode cX11_garden 54 = .ok (.iastore, 1) := by decide +kernel
theorem dX11_garden_55 : decode cX11_garden 55 = .ok (.aload_n 0, 1) := by decide +kernel
theorem dX11_garden_56 : decode cX11_garden 56 = .ok (.getfield 17, 3) := by decide +kernel
theorem dX11_garden_59 : decode cX11_garden 59 = .ok (.aload_n 0, 1) := by decide +kernel
theorem dX11_garden_60 : decode cX11_garden 60 = .ok (.getfield 95, 3) := by decide +kernel
theorem dX11_garden_63 : decode cX11_garden 63 = .ok (.iload_n 2, 1) := by decide +kernel
theorem dX11_garden_64 : decode cX11_garden 64 = .ok (.iastore, 1) := by decide +kernel
theorem dX11_garden_65 : decode cX11_garden 65 = .ok (.aload_n 0, 1) := by decide +kernel
theorem dX11_garden_66 : decode cX11_garden 66 = .ok (.getfield 20, 3) := by decide +kernel
theorem dX11_garden_69 : decode cX11_garden 69 = .ok (.aload_n 0, 1) := by decide +kernel
theorem dX11_garden_70 : decode cX11_garden 70 = .ok (.getfield 95, 3) := by decide +kernel
theorem dX11_garden_73 : decode cX11_garden 73 = .ok (.iload_n 3, 1) := by decide +kernel
theorem dX11_garden_74 : decode cX11_garden 74 = .ok (.iastore, 1) := by decide +kernel
theorem dX11_garden_75 : decode cX11_garden 75 = .ok (.aload_n 0, 1) := by decide +kernel
theorem dX11_garden_76 : decode cX11_garden 76 = .ok (.dup, 1) := by decide +kernel
theorem dX11_garden_77 : decode cX11_garden 77 = .ok (.getfield 95, 3) := by decide +kernel
theorem dX11_garden_80 : decode cX11_garden 80 = .ok (.iconst 1, 1) := by decide +kernel
theorem dX11_garden_81 : decode cX11_garden 81 = .ok (.iadd, 1) := by decide +kernel
theorem dX11_garden_82 : decode cX11_garden 82 = .ok (.putfield 95, 3) := by decide +kernel
theorem dX11_garden_85 : decode cX11_garden 85 = .ok (.aload_n 0, 1) := by decide +kernel
theorem dX11_garden_86 : decode cX11_garden 86 = .ok (.getfield 95, 3) := by decide +kernel
theorem dX11_garden_89 : decode cX11_garden 89 = .ok (.iconst 1, 1) := by decide +kernel
theorem dX11_garden_90 : decode cX11_garden 90 = .ok (.isub, 1) := by decide +kernel
theorem dX11_garden_91 : decode cX11_garden 91 = .ok (.ireturn, 1) := by decide +kernel
theorem dX11_gang_0 : decode cX11_gang 0 = .ok (.iload_n 1, 1) := by decide +kernel
theorem dX11_gang_1 : decode cX11_gang 1 = .ok (.iconst 1, 1) := by decide +kernel
theorem dX11_gang_2 : decode cX11_gang 2 = .ok (.bipush 30, 2) := by decide +kernel
theorem dX11_gang_4 : decode cX11_gang 4 = .ok (.invokestatic 98, 3) := by decide +kernel
theorem dX11_gang_7 : decode cX11_gang 7 = .ok (.ifCond .eq 14, 3) := by decide +kernel
theorem dX11_gang_10 : decode cX11_gang 10 = .ok (.iload_n 2, 1) := by decide +kernel
theorem dX11_gang_11 : decode cX11_gang 11 = .ok (.bipush 80, 2) := by decide +kernel
theorem dX11_gang_13 : decode cX11_gang 13 = .ok (.bipush 120, 2) := by decide +kernel
theorem dX11_gang_15 : decode cX11_gang 15 = .ok (.invokestatic 98, 3) := by decide +kernel
theorem dX11_gang_18 : decode cX11_gang 18 = .ok (.ifCond .ne 5, 3) := by decide +kernel
theorem dX11_gang_21 : decode cX11_gang 21 = .ok (.iconst (-1), 1) := by decide +kernel
theorem dX11_gang_22 : decode cX11_gang 22 = .ok (.ireturn, 1) := by decide +kernel
theorem dX11_gang_23 : decode cX11_gang 23 = .ok (.aload_n 0, 1) := by decide +kernel
theorem dX11_gang_24 : decode cX11_gang 24 = .ok (.getfield 102, 3) := by decide +kernel
theorem dX11_gang_27 : decode cX11_gang 27 = .ok (.bipush 6, 2) := by decide +kernel
theorem dX11_gang_29 : decode cX11_gang 29 = .ok (.if_icmp .ne 6, 3) := by decide +kernel
theorem dX11_gang_32 : decode cX11_gang 32 = .ok (.bipush (-3), 2) := by decide +kernel
theorem dX11_gang_34 : decode cX11_gang 34 = .ok (.ireturn, 1) := by decide +kernel
theorem dX11_gang_35 : decode cX11_gang 35 = .ok (.aload_n 0, 1) := by decide +kernel
theorem dX11_gang_36 : decode cX11_gang 36 = .ok (.getfield 32, 3) := by decide +kernel
theorem dX11_gang_39 : decode cX11_gang 39 = .ok (.aload_n 0, 1) := by decide +kernel
theorem dX11_gang_40 : decode cX11_gang 40 = .ok (.getfield 102, 3) := by decide +kernel
theorem dX11_gang_43 : decode cX11_gang 43 = .ok (.iload_n 1, 1) := by decide +kernel
theorem dX11_gang_44 : decode cX11_gang 44 = .ok (.iastore, 1) := by decide +kernel
theorem dX11_gang_45 : decode cX11_gang 45 = .ok (.aload_n 0, 1) := by decide +kernel
theorem dX11_gang_46 : decode cX11_gang 46 = .ok (.getfield 35, 3) := by decide +kernel
theorem dX11_gang_49 : decode cX11_gang 49 = .ok (.aload_n 0, 1) := by decide +kernel
theorem dX11_gang_50 : decode cX11_gang 50 = .ok (.getfield 102, 3) := by decide +kernel
theorem dX11_gang_53 : decode cX11_gang 53 = .ok (.iload_n 2, 1) := by decide +kernel
theorem dX11_gang_54 : decode cX11_gang 54 = .ok (.iastore, 1) := by decide +kernel
theorem dX11_gang_55 : decode cX11_gang 55 = .ok (.aload_n 0, 1) := by decide +kernel
theorem dX11_gang_56 : decode cX11_gang 56 = .ok (.dup, 1) := by decide +kernel
theorem dX11_gang_57 : decode cX11_gang 57 = .ok (.getfield 102, 3) := by decide +kernel
theorem dX11_gang_60 : decode cX11_gang 60 = .ok (.iconst 1, 1) := by decide +kernel
theorem dX11_gang_61 : decode cX11_gang 61 = .ok (.iadd, 1) := by decide +kernel
theorem dX11_gang_62 : decode cX11_gang 62 = .ok (.putfield 102, 3) := by decide +kernel
theorem dX11_gang_65 : decode cX11_gang 65 = .ok (.aload_n 0, 1) := by decide +kernel
theorem dX11_gang_66 : decode cX11_gang 66 = .ok (.getfield 102, 3) := by decide +kernel
theorem dX11_gang_69 : decode cX11_gang 69 = .ok (.iconst 1, 1) := by decide +kernel
theorem dX11_gang_70 : decode cX11_gang 70 = .ok (.isub, 1) := by decide +kernel
theorem dX11_gang_71 : decode cX11_gang 71 = .ok (.ireturn, 1) := by decide +kernel
theorem dX11_sends_0 : decode cX11_sends 0 = .ok (.aload_n 0, 1) := by decide +kernel
theorem dX11_sends_1 : decode cX11_sends 1 = .ok (.iload_n 1, 1) := by decide +kernel
theorem dX11_sends_2 : decode cX11_sends 2 = .ok (.invokevirtual 108, 3) := by decide +kernel
theorem dX11_sends_5 : decode cX11_sends 5 = .ok (.ifCond .eq 17, 3) := by decide +kernel
theorem dX11_sends_8 : decode cX11_sends 8 = .ok (.iload_n 2, 1) := by decide +kernel
theorem dX11_sends_9 : decode cX11_sends 9 = .ok (.bipush (-9), 2) := by decide +kernel
theorem dX11_sends_11 : decode cX11_sends 11 = .ok (.if_icmp .eq 14, 3) := by decide +kernel
theorem dX11_sends_14 : decode cX11_sends 14 = .ok (.aload_n 0, 1) := by decide +kernel
theorem dX11_sends_15 : decode cX11_sends 15 = .ok (.iload_n 2, 1) := by decide +kernel
theorem dX11_sends_16 : decode cX11_sends 16 = .ok (.invokevirtual 112, 3) := by decide +kernel
theorem dX11_sends_19 : decode cX11_sends 19 = .ok (.ifCond .ne 6, 3) := by decide +kernel
theorem dX11_sends_22 : decode cX11_sends 22 = .ok (.bipush (-2), 2) := by decide +kernel
theorem dX11_sends_24 : decode cX11_sends 24 = .ok (.ireturn, 1) := by decide +kernel
theorem dX11_sends_25 : decode cX11_sends 25 = .ok (.aload_n 0, 1) := by decide +kernel
theorem dX11_sends_26 : decode cX11_sends 26 = .ok (.getfield 38, 3) := by decide +kernel
theorem dX11_sends_29 : decode cX11_sends 29 = .ok (.iload_n 1, 1) := by decide +kernel
theorem dX11_sends_30 : decode cX11_sends 30 = .ok (.iaload, 1) := by decide +kernel
theorem dX11_sends_31 : decode cX11_sends 31 = .ok (.istore_n 3, 1) := by decide +kernel
theorem dX11_sends_32 : decode cX11_sends 32 = .ok (.aload_n 0, 1) := by decide +kernel
theorem dX11_sends_33 : decode cX11_sends 33 = .ok (.getfield 38, 3) := by decide +kernel
theorem dX11_sends_36 : decode cX11_sends 36 = .ok (.iload_n 1, 1) := by decide +kernel
theorem dX11_sends_37 : decode cX11_sends 37 = .ok (.iload_n 2, 1) := by decide +kernel
theorem dX11_sends_38 : decode cX11_sends 38 = .ok (.iastore, 1) := by decide +kernel
theorem dX11_sends_39 : decode cX11_sends 39 = .ok (.iload_n 3, 1) := by decide +kernel
theorem dX11_sends_40 : decode cX11_sends 40 = .ok (.ireturn, 1) := by decide +kernel
theorem dX11_kiln_0 : decode cX11_kiln 0 = .ok (.iload_n 1, 1) := by decide +kernel
theorem dX11_kiln_1 : decode cX11_kiln 1 = .ok (.iconst 0, 1) := by decide +kernel
theorem dX11_kiln_2 : decode cX11_kiln 2 = .ok (.iconst 2, 1) := by decide +kernel
theorem dX11_kiln_3 : decode cX11_kiln 3 = .ok (.invokestatic 98, 3) := by decide +kernel
theorem dX11_kiln_6 : decode cX11_kiln 6 = .ok (.ifCond .eq 14, 3) := by decide +kernel
theorem dX11_kiln_9 : decode cX11_kiln 9 = .ok (.iload_n 2, 1) := by decide +kernel
theorem dX11_kiln_10 : decode cX11_kiln 10 = .ok (.iconst 1, 1) := by decide +kernel
theorem dX11_kiln_11 : decode cX11_kiln 11 = .ok (.sipush 200, 3) := by decide +kernel
theorem dX11_kiln_14 : decode cX11_kiln 14 = .ok (.invokestatic 98, 3) := by decide +kernel
theorem dX11_kiln_17 : decode cX11_kiln 17 = .ok (.ifCond .ne 5, 3) := by decide +kernel
theorem dX11_kiln_20 : decode cX11_kiln 20 = .ok (.iconst (-1), 1) := by decide +kernel
theorem dX11_kiln_21 : decode cX11_kiln 21 = .ok (.ireturn, 1) := by decide +kernel
theorem dX11_kiln_22 : decode cX11_kiln 22 = .ok (.aload_n 0, 1) := by decide +kernel
theorem dX11_kiln_23 : decode cX11_kiln 23 = .ok (.getfield 105, 3) := by decide +kernel
theorem dX11_kiln_26 : decode cX11_kiln 26 = .ok (.iconst 4, 1) := by decide +kernel
theorem dX11_kiln_27 : decode cX11_kiln 27 = .ok (.if_icmp .ne 6, 3) := by decide +kernel
theorem dX11_kiln_30 : decode cX11_kiln 30 = .ok (.bipush (-3), 2) := by decide +kernel
theorem dX11_kiln_32 : decode cX11_kiln 32 = .ok (.ireturn, 1) := by decide +kernel
theorem dX11_kiln_33 : decode cX11_kiln 33 = .ok (.aload_n 0, 1) := by decide +kernel
theorem dX11_kiln_34 : decode cX11_kiln 34 = .ok (.getfield 53, 3) := by decide +kernel
theorem dX11_kiln_37 : decode cX11_kiln 37 = .ok (.aload_n 0, 1) := by decide +kernel
theorem dX11_kiln_38 : decode cX11_kiln 38 = .ok (.getfield 105, 3) := by decide +kernel
theorem dX11_kiln_41 : decode cX11_kiln 41 = .ok (.iload_n 1, 1) := by decide +kernel
theorem dX11_kiln_42 : decode cX11_kiln 42 = .ok (.iastore, 1) := by decide +kernel
theorem dX11_kiln_43 : decode cX11_kiln 43 = .ok (.aload_n 0, 1) := by decide +kernel
theorem dX11_kiln_44 : decode cX11_kiln 44 = .ok (.getfield 56, 3) := by decide +kernel
theorem dX11_kiln_47 : decode cX11_kiln 47 = .ok (.aload_n 0, 1) := by decide +kernel
theorem dX11_kiln_48 : decode cX11_kiln 48 = .ok (.getfield 105, 3) := by decide +kernel
theorem dX11_kiln_51 : decode cX11_kiln 51 = .ok (.iload_n 2, 1) := by decide +kernel
theorem dX11_kiln_52 : decode cX11_kiln 52 = .ok (.iastore, 1) := by decide +kernel
theorem dX11_kiln_53 : decode cX11_kiln 53 = .ok (.aload_n 0, 1) := by decide +kernel
theorem dX11_kiln_54 : decode cX11_kiln 54 = .ok (.getfield 59, 3) := by decide +kernel
theorem dX11_kiln_57 : decode cX11_kiln 57 = .ok (.aload_n 0, 1) := by decide +kernel
theorem dX11_kiln_58 : decode cX11_kiln 58 = .ok (.getfield 105, 3) := by decide +kernel
theorem dX11_kiln_61 : decode cX11_kiln 61 = .ok (.bipush 50, 2) := by decide +kernel
theorem dX11_kiln_63 : decode cX11_kiln 63 = .ok (.iastore, 1) := by decide +kernel
theorem dX11_kiln_64 : decode cX11_kiln 64 = .ok (.aload_n 0, 1) := by decide +kernel
theorem dX11_kiln_65 : decode cX11_kiln 65 = .ok (.dup, 1) := by decide +kernel
theorem dX11_kiln_66 : decode cX11_kiln 66 = .ok (.getfield 105, 3) := by decide +kernel
theorem dX11_kiln_69 : decode cX11_kiln 69 = .ok (.iconst 1, 1) := by decide +kernel
theorem dX11_kiln_70 : decode cX11_kiln 70 = .ok (.iadd, 1) := by decide +kernel
theorem dX11_kiln_71 : decode cX11_kiln 71 = .ok (.putfield 105, 3) := by decide +kernel
theorem dX11_kiln_74 : decode cX11_kiln 74 = .ok (.aload_n 0, 1) := by decide +kernel
theorem dX11_kiln_75 : decode cX11_kiln 75 = .ok (.getfield 105, 3) := by decide +kernel
theorem dX11_kiln_78 : decode cX11_kiln 78 = .ok (.iconst 1, 1) := by decide +kernel
theorem dX11_kiln_79 : decode cX11_kiln 79 = .ok (.isub, 1) := by decide +kernel
theorem dX11_kiln_80 : decode cX11_kiln 80 = .ok (.ireturn, 1) := by decide +kernel
theorem dX11_read_0 : decode cX11_read 0 = .ok (.aload_n 0, 1) := by decide +kernel
theorem dX11_read_1 : decode cX11_read 1 = .ok (.iload_n 1, 1) := by decide +kernel
theorem dX11_read_2 : decode cX11_read 2 = .ok (.invokevirtual 115, 3) := by decide +kernel
theorem dX11_read_5 : decode cX11_read 5 = .ok (.ifCond .eq 19, 3) := by decide +kernel
theorem dX11_read_8 : decode cX11_read 8 = .ok (.iload_n 2, 1) := by decide +kernel
theorem dX11_read_9 : decode cX11_read 9 = .ok (.bipush (-9), 2) := by decide +kernel
theorem dX11_read_11 : decode cX11_read 11 = .ok (.if_icmp .eq 15, 3) := by decide +kernel
theorem dX11_read_14 : decode cX11_read 14 = .ok (.iload_n 2, 1) := by decide +kernel
theorem dX11_read_15 : decode cX11_read 15 = .ok (.iconst 0, 1) := by decide +kernel
theorem dX11_read_16 : decode cX11_read 16 = .ok (.bipush 100, 2) := by decide +kernel
theorem dX11_read_18 : decode cX11_read 18 = .ok (.invokestatic 98, 3) := by decide +kernel
theorem dX11_read_21 : decode cX11_read 21 = .ok (.ifCond .ne 5, 3) := by decide +kernel
theorem dX11_read_24 : decode cX11_read 24 = .ok (.iconst (-1), 1) := by decide +kernel
theorem dX11_read_25 : decode cX11_read 25 = .ok (.ireturn, 1) := by decide +kernel
theorem dX11_read_26 : decode cX11_read 26 = .ok (.aload_n 0, 1) := by decide +kernel
theorem dX11_read_27 : decode cX11_read 27 = .ok (.getfield 59, 3) := by decide +kernel
theorem dX11_read_30 : decode cX11_read 30 = .ok (.iload_n 1, 1) := by decide +kernel
theorem dX11_read_31 : decode cX11_read 31 = .ok (.iaload, 1) := by decide +kernel
theorem dX11_read_32 : decode cX11_read 32 = .ok (.istore_n 3, 1) := by decide +kernel
theorem dX11_read_33 : decode cX11_read 33 = .ok (.aload_n 0, 1) := by decide +kernel
theorem dX11_read_34 : decode cX11_read 34 = .ok (.getfield 59, 3) := by decide +kernel
theorem dX11_read_37 : decode cX11_read 37 = .ok (.iload_n 1, 1) := by decide +kernel
theorem dX11_read_38 : decode cX11_read 38 = .ok (.iload_n 2, 1) := by decide +kernel
theorem dX11_read_39 : decode cX11_read 39 = .ok (.bipush (-9), 2) := by decide +kernel
theorem dX11_read_41 : decode cX11_read 41 = .ok (.if_icmp .ne 7, 3) := by decide +kernel
theorem dX11_read_44 : decode cX11_read 44 = .ok (.iload_n 3, 1) := by decide +kernel
theorem dX11_read_45 : decode cX11_read 45 = .ok (.goto 4, 3) := by decide +kernel
theorem dX11_read_48 : decode cX11_read 48 = .ok (.iload_n 2, 1) := by decide +kernel
theorem dX11_read_49 : decode cX11_read 49 = .ok (.iastore, 1) := by decide +kernel
theorem dX11_read_50 : decode cX11_read 50 = .ok (.iload_n 3, 1) := by decide +kernel
theorem dX11_read_51 : decode cX11_read 51 = .ok (.ireturn, 1) := by decide +kernel
theorem dX11_dryingBy_0 : decode cX11_dryingBy 0 = .ok (.iload_n 1, 1) := by decide +kernel
theorem dX11_dryingBy_1 : decode cX11_dryingBy 1 = .ok (.iconst 5, 1) := by decide +kernel
theorem dX11_dryingBy_2 : decode cX11_dryingBy 2 = .ok (.idiv, 1) := by decide +kernel
theorem dX11_dryingBy_3 : decode cX11_dryingBy 3 = .ok (.iload_n 0, 1) := by decide +kernel
theorem dX11_dryingBy_4 : decode cX11_dryingBy 4 = .ok (.ifCond .le 13, 3) := by decide +kernel
theorem dX11_dryingBy_7 : decode cX11_dryingBy 7 = .ok (.iload_n 1, 1) := by decide +kernel
theorem dX11_dryingBy_8 : decode cX11_dryingBy 8 = .ok (.bipush 40, 2) := by decide +kernel
theorem dX11_dryingBy_10 : decode cX11_dryingBy 10 = .ok (.if_icmp .lt 7, 3) := by decide +kernel
theorem dX11_dryingBy_13 : decode cX11_dryingBy 13 = .ok (.iconst 3, 1) := by decide +kernel
theorem dX11_dryingBy_14 : decode cX11_dryingBy 14 = .ok (.goto 4, 3) := by decide +kernel
theorem dX11_dryingBy_17 : decode cX11_dryingBy 17 = .ok (.iconst 0, 1) := by decide +kernel
theorem dX11_dryingBy_18 : decode cX11_dryingBy 18 = .ok (.iadd, 1) := by decide +kernel
theorem dX11_dryingBy_19 : decode cX11_dryingBy 19 = .ok (.istore_n 2, 1) := by decide +kernel
theorem dX11_dryingBy_20 : decode cX11_dryingBy 20 = .ok (.iload_n 0, 1) := by decide +kernel
theorem dX11_dryingBy_21 : decode cX11_dryingBy 21 = .ok (.iconst 2, 1) := by decide +kernel
theorem dX11_dryingBy_22 : decode cX11_dryingBy 22 = .ok (.if_icmp .ge 7, 3) := by decide +kernel
theorem dX11_dryingBy_25 : decode cX11_dryingBy 25 = .ok (.iload_n 2, 1) := by decide +kernel
theorem dX11_dryingBy_26 : decode cX11_dryingBy 26 = .ok (.goto 17, 3) := by decide +kernel
theorem dX11_dryingBy_29 : decode cX11_dryingBy 29 = .ok (.iload_n 2, 1) := by decide +kernel
theorem dX11_dryingBy_30 : decode cX11_dryingBy 30 = .ok (.bipush 20, 2) := by decide +kernel
theorem dX11_dryingBy_32 : decode cX11_dryingBy 32 = .ok (.if_icmp .le 8, 3) := by decide +kernel
theorem dX11_dryingBy_35 : decode cX11_dryingBy 35 = .ok (.bipush 40, 2) := by decide +kernel
theorem dX11_dryingBy_37 : decode cX11_dryingBy 37 = .ok (.goto 6, 3) := by decide +kernel
theorem dX11_dryingBy_40 : decode cX11_dryingBy 40 = .ok (.iconst 2, 1) := by decide +kernel
theorem dX11_dryingBy_41 : decode cX11_dryingBy 41 = .ok (.iload_n 2, 1) := by decide +kernel
theorem dX11_dryingBy_42 : decode cX11_dryingBy 42 = .ok (.imul, 1) := by decide +kernel
theorem dX11_dryingBy_43 : decode cX11_dryingBy 43 = .ok (.ireturn, 1) := by decide +kernel
theorem dX11_drying_0 : decode cX11_drying 0 = .ok (.aload_n 0, 1) := by decide +kernel
theorem dX11_drying_1 : decode cX11_drying 1 = .ok (.iload_n 1, 1) := by decide +kernel
theorem dX11_drying_2 : decode cX11_drying 2 = .ok (.invokevirtual 115, 3) := by decide +kernel
theorem dX11_drying_5 : decode cX11_drying 5 = .ok (.ifCond .eq 13, 3) := by decide +kernel
theorem dX11_drying_8 : decode cX11_drying 8 = .ok (.iload_n 2, 1) := by decide +kernel
theorem dX11_drying_9 : decode cX11_drying 9 = .ok (.iconst 0, 1) := by decide +kernel
theorem dX11_drying_10 : decode cX11_drying 10 = .ok (.bipush 100, 2) := by decide +kernel
theorem dX11_drying_12 : decode cX11_drying 12 = .ok (.invokestatic 98, 3) := by decide +kernel
theorem dX11_drying_15 : decode cX11_drying 15 = .ok (.ifCond .ne 5, 3) := by decide +kernel
theorem dX11_drying_18 : decode cX11_drying 18 = .ok (.iconst (-1), 1) := by decide +kernel
theorem dX11_drying_19 : decode cX11_drying 19 = .ok (.ireturn, 1) := by decide +kernel
theorem dX11_drying_20 : decode cX11_drying 20 = .ok (.aload_n 0, 1) := by decide +kernel
theorem dX11_drying_21 : decode cX11_drying 21 = .ok (.dup, 1) := by decide +kernel
theorem dX11_drying_22 : decode cX11_drying 22 = .ok (.getfield 118, 3) := by decide +kernel
theorem dX11_drying_25 : decode cX11_drying 25 = .ok (.aload_n 0, 1) := by decide +kernel
theorem dX11_drying_26 : decode cX11_drying 26 = .ok (.getfield 53, 3) := by decide +kernel
theorem dX11_drying_29 : decode cX11_drying 29 = .ok (.iload_n 1, 1) := by decide +kernel
theorem dX11_drying_30 : decode cX11_drying 30 = .ok (.iaload, 1) := by decide +kernel
theorem dX11_drying_31 : decode cX11_drying 31 = .ok (.ifCond .ne 7, 3) := by decide +kernel
theorem dX11_drying_34 : decode cX11_drying 34 = .ok (.lconst 1, 1) := by decide +kernel
theorem dX11_drying_35 : decode cX11_drying 35 = .ok (.goto 22, 3) := by decide +kernel
theorem dX11_drying_38 : decode cX11_drying 38 = .ok (.aload_n 0, 1) := by decide +kernel
theorem dX11_drying_39 : decode cX11_drying 39 = .ok (.getfield 53, 3) := by decide +kernel
theorem dX11_drying_42 : decode cX11_drying 42 = .ok (.iload_n 1, 1) := by decide +kernel
theorem dX11_drying_43 : decode cX11_drying 43 = .ok (.iaload, 1) := by decide +kernel
theorem dX11_drying_44 : decode cX11_drying 44 = .ok (.iconst 1, 1) := by decide +kernel
theorem dX11_drying_45 : decode cX11_drying 45 = .ok (.if_icmp .ne 9, 3) := by decide +kernel
theorem dX11_drying_48 : decode cX11_drying 48 = .ok (.ldc2_w 122, 3) := by decide +kernel
theorem dX11_drying_51 : decode cX11_drying 51 = .ok (.goto 6, 3) := by decide +kernel
theorem dX11_drying_54 : decode cX11_drying 54 = .ok (.ldc2_w 124, 3) := by decide +kernel
theorem dX11_drying_57 : decode cX11_drying 57 = .ok (.ladd, 1) := by decide +kernel
theorem dX11_drying_58 : decode cX11_drying 58 = .ok (.putfield 118, 3) := by decide +kernel
theorem dX11_drying_61 : decode cX11_drying 61 = .ok (.aload_n 0, 1) := by decide +kernel
theorem dX11_drying_62 : decode cX11_drying 62 = .ok (.getfield 53, 3) := by decide +kernel
theorem dX11_drying_65 : decode cX11_drying 65 = .ok (.iload_n 1, 1) := by decide +kernel
theorem dX11_drying_66 : decode cX11_drying 66 = .ok (.iaload, 1) := by decide +kernel
theorem dX11_drying_67 : decode cX11_drying 67 = .ok (.iload_n 2, 1) := by decide +kernel
theorem dX11_drying_68 : decode cX11_drying 68 = .ok (.invokestatic 126, 3) := by decide +kernel
theorem dX11_drying_71 : decode cX11_drying 71 = .ok (.ireturn, 1) := by decide +kernel
theorem dX11_waits_0 : decode cX11_waits 0 = .ok (.iload_n 1, 1) := by decide +kernel
theorem dX11_waits_1 : decode cX11_waits 1 = .ok (.iconst 1, 1) := by decide +kernel
theorem dX11_waits_2 : decode cX11_waits 2 = .ok (.bipush 24, 2) := by decide +kernel
theorem dX11_waits_4 : decode cX11_waits 4 = .ok (.invokestatic 98, 3) := by decide +kernel
theorem dX11_waits_7 : decode cX11_waits 7 = .ok (.ifCond .ne 5, 3) := by decide +kernel
theorem dX11_waits_10 : decode cX11_waits 10 = .ok (.iconst (-1), 1) := by decide +kernel
theorem dX11_waits_11 : decode cX11_waits 11 = .ok (.ireturn, 1) := by decide +kernel
theorem dX11_waits_12 : decode cX11_waits 12 = .ok (.aload_n 0, 1) := by decide +kernel
theorem dX11_waits_13 : decode cX11_waits 13 = .ok (.getfield 7, 3) := by decide +kernel
theorem dX11_waits_16 : decode cX11_waits 16 = .ok (.istore_n 2, 1) := by decide +kernel
theorem dX11_waits_17 : decode cX11_waits 17 = .ok (.aload_n 0, 1) := by decide +kernel
theorem dX11_waits_18 : decode cX11_waits 18 = .ok (.iload_n 1, 1) := by decide +kernel
theorem dX11_waits_19 : decode cX11_waits 19 = .ok (.putfield 7, 3) := by decide +kernel
theorem dX11_waits_22 : decode cX11_waits 22 = .ok (.iload_n 2, 1) := by decide +kernel
theorem dX11_waits_23 : decode cX11_waits 23 = .ok (.ireturn, 1) := by decide +kernel
theorem dX11_priceAt_0 : decode cX11_priceAt 0 = .ok (.iconst (-1), 1) := by decide +kernel
theorem dX11_priceAt_1 : decode cX11_priceAt 1 = .ok (.istore_n 2, 1) := by decide +kernel
theorem dX11_priceAt_2 : decode cX11_priceAt 2 = .ok (.iconst 0, 1) := by decide +kernel
theorem dX11_priceAt_3 : decode cX11_priceAt 3 = .ok (.istore_n 3, 1) := by decide +kernel
theorem dX11_priceAt_4 : decode cX11_priceAt 4 = .ok (.iload_n 3, 1) := by decide +kernel
theorem dX11_priceAt_5 : decode cX11_priceAt 5 = .ok (.aload_n 0, 1) := by decide +kernel
theorem dX11_priceAt_6 : decode cX11_priceAt 6 = .ok (.getfield 130, 3) := by decide +kernel
theorem dX11_priceAt_9 : decode cX11_priceAt 9 = .ok (.if_icmp .ge 44, 3) := by decide +kernel
theorem dX11_priceAt_12 : decode cX11_priceAt 12 = .ok (.aload_n 0, 1) := by decide +kernel
theorem dX11_priceAt_13 : decode cX11_priceAt 13 = .ok (.getfield 77, 3) := by decide +kernel
theorem dX11_priceAt_16 : decode cX11_priceAt 16 = .ok (.iload_n 3, 1) := by decide +kernel
theorem dX11_priceAt_17 : decode cX11_priceAt 17 = .ok (.iaload, 1) := by decide +kernel
theorem dX11_priceAt_18 : decode cX11_priceAt 18 = .ok (.iload_n 1, 1) := by decide +kernel
theorem dX11_priceAt_19 : decode cX11_priceAt 19 = .ok (.if_icmp .gt 26, 3) := by decide +kernel
theorem dX11_priceAt_22 : decode cX11_priceAt 22 = .ok (.iload_n 2, 1) := by decide +kernel
theorem dX11_priceAt_23 : decode cX11_priceAt 23 = .ok (.ifCond .lt 18, 3) := by decide +kernel
theorem dX11_priceAt_26 : decode cX11_priceAt 26 = .ok (.aload_n 0, 1) := by decide +kernel
theorem dX11_priceAt_27 : decode cX11_priceAt 27 = .ok (.getfield 77, 3) := by decide +kernel
theorem dX11_priceAt_30 : decode cX11_priceAt 30 = .ok (.iload_n 3, 1) := by decide +kernel
theorem dX11_priceAt_31 : decode cX11_priceAt 31 = .ok (.iaload, 1) := by decide +kernel
theorem dX11_priceAt_32 : decode cX11_priceAt 32 = .ok (.aload_n 0, 1) := by decide +kernel
theorem dX11_priceAt_33 : decode cX11_priceAt 33 = .ok (.getfield 77, 3) := by decide +kernel
theorem dX11_priceAt_36 : decode cX11_priceAt 36 = .ok (.iload_n 2, 1) := by decide +kernel
theorem dX11_priceAt_37 : decode cX11_priceAt 37 = .ok (.iaload, 1) := by decide +kernel
theorem dX11_priceAt_38 : decode cX11_priceAt 38 = .ok (.if_icmp .lt 7, 3) := by decide +kernel
theorem dX11_priceAt_41 : decode cX11_priceAt 41 = .ok (.iload_n 3, 1) := by decide +kernel
theorem dX11_priceAt_42 : decode cX11_priceAt 42 = .ok (.goto 4, 3) := by decide +kernel
theorem dX11_priceAt_45 : decode cX11_priceAt 45 = .ok (.iload_n 2, 1) := by decide +kernel
theorem dX11_priceAt_46 : decode cX11_priceAt 46 = .ok (.istore_n 2, 1) := by decide +kernel
theorem dX11_priceAt_47 : decode cX11_priceAt 47 = .ok (.iinc 3 1, 3) := by decide +kernel
theorem dX11_priceAt_50 : decode cX11_priceAt 50 = .ok (.goto (-46), 3) := by decide +kernel
theorem dX11_priceAt_53 : decode cX11_priceAt 53 = .ok (.iload_n 2, 1) := by decide +kernel
theorem dX11_priceAt_54 : decode cX11_priceAt 54 = .ok (.ifCond .ge 7, 3) := by decide +kernel
theorem dX11_priceAt_57 : decode cX11_priceAt 57 = .ok (.iconst 2, 1) := by decide +kernel
theorem dX11_priceAt_58 : decode cX11_priceAt 58 = .ok (.goto 9, 3) := by decide +kernel
theorem dX11_priceAt_61 : decode cX11_priceAt 61 = .ok (.aload_n 0, 1) := by decide +kernel
theorem dX11_priceAt_62 : decode cX11_priceAt 62 = .ok (.getfield 80, 3) := by decide +kernel
theorem dX11_priceAt_65 : decode cX11_priceAt 65 = .ok (.iload_n 2, 1) := by decide +kernel
theorem dX11_priceAt_66 : decode cX11_priceAt 66 = .ok (.iaload, 1) := by decide +kernel
theorem dX11_priceAt_67 : decode cX11_priceAt 67 = .ok (.ireturn, 1) := by decide +kernel
theorem dX11_dutyOn_0 : decode cX11_dutyOn 0 = .ok (.iconst (-1), 1) := by decide +kernel
theorem dX11_dutyOn_1 : decode cX11_dutyOn 1 = .ok (.istore_n 2, 1) := by decide +kernel
theorem dX11_dutyOn_2 : decode cX11_dutyOn 2 = .ok (.iconst 0, 1) := by decide +kernel
theorem dX11_dutyOn_3 : decode cX11_dutyOn 3 = .ok (.istore_n 3, 1) := by decide +kernel
theorem dX11_dutyOn_4 : decode cX11_dutyOn 4 = .ok (.iload_n 3, 1) := by decide +kernel
theorem dX11_dutyOn_5 : decode cX11_dutyOn 5 = .ok (.aload_n 0, 1) := by decide +kernel
theorem dX11_dutyOn_6 : decode cX11_dutyOn 6 = .ok (.getfield 133, 3) := by decide +kernel
theorem dX11_dutyOn_9 : decode cX11_dutyOn 9 = .ok (.if_icmp .ge 44, 3) := by decide +kernel
theorem dX11_dutyOn_12 : decode cX11_dutyOn 12 = .ok (.aload_n 0, 1) := by decide +kernel
theorem dX11_dutyOn_13 : decode cX11_dutyOn 13 = .ok (.getfield 83, 3) := by decide +kernel
theorem dX11_dutyOn_16 : decode cX11_dutyOn 16 = .ok (.iload_n 3, 1) := by decide +kernel
theorem dX11_dutyOn_17 : decode cX11_dutyOn 17 = .ok (.iaload, 1) := by decide +kernel
theorem dX11_dutyOn_18 : decode cX11_dutyOn 18 = .ok (.iload_n 1, 1) := by decide +kernel
theorem dX11_dutyOn_19 : decode cX11_dutyOn 19 = .ok (.if_icmp .gt 26, 3) := by decide +kernel
theorem dX11_dutyOn_22 : decode cX11_dutyOn 22 = .ok (.iload_n 2, 1) := by decide +kernel
theorem dX11_dutyOn_23 : decode cX11_dutyOn 23 = .ok (.ifCond .lt 18, 3) := by decide +kernel
theorem dX11_dutyOn_26 : decode cX11_dutyOn 26 = .ok (.aload_n 0, 1) := by decide +kernel
theorem dX11_dutyOn_27 : decode cX11_dutyOn 27 = .ok (.getfield 83, 3) := by decide +kernel
theorem dX11_dutyOn_30 : decode cX11_dutyOn 30 = .ok (.iload_n 3, 1) := by decide +kernel
theorem dX11_dutyOn_31 : decode cX11_dutyOn 31 = .ok (.iaload, 1) := by decide +kernel
theorem dX11_dutyOn_32 : decode cX11_dutyOn 32 = .ok (.aload_n 0, 1) := by decide +kernel
theorem dX11_dutyOn_33 : decode cX11_dutyOn 33 = .ok (.getfield 83, 3) := by decide +kernel
theorem dX11_dutyOn_36 : decode cX11_dutyOn 36 = .ok (.iload_n 2, 1) := by decide +kernel
theorem dX11_dutyOn_37 : decode cX11_dutyOn 37 = .ok (.iaload, 1) := by decide +kernel
theorem dX11_dutyOn_38 : decode cX11_dutyOn 38 = .ok (.if_icmp .lt 7, 3) := by decide +kernel
theorem dX11_dutyOn_41 : decode cX11_dutyOn 41 = .ok (.iload_n 3, 1) := by decide +kernel
theorem dX11_dutyOn_42 : decode cX11_dutyOn 42 = .ok (.goto 4, 3) := by decide +kernel
theorem dX11_dutyOn_45 : decode cX11_dutyOn 45 = .ok (.iload_n 2, 1) := by decide +kernel
theorem dX11_dutyOn_46 : decode cX11_dutyOn 46 = .ok (.istore_n 2, 1) := by decide +kernel
theorem dX11_dutyOn_47 : decode cX11_dutyOn 47 = .ok (.iinc 3 1, 3) := by decide +kernel
theorem dX11_dutyOn_50 : decode cX11_dutyOn 50 = .ok (.goto (-46), 3) := by decide +kernel
theorem dX11_dutyOn_53 : decode cX11_dutyOn 53 = .ok (.iload_n 2, 1) := by decide +kernel
theorem dX11_dutyOn_54 : decode cX11_dutyOn 54 = .ok (.ifCond .ge 7, 3) := by decide +kernel
theorem dX11_dutyOn_57 : decode cX11_dutyOn 57 = .ok (.iconst 0, 1) := by decide +kernel
theorem dX11_dutyOn_58 : decode cX11_dutyOn 58 = .ok (.goto 9, 3) := by decide +kernel
theorem dX11_dutyOn_61 : decode cX11_dutyOn 61 = .ok (.aload_n 0, 1) := by decide +kernel
theorem dX11_dutyOn_62 : decode cX11_dutyOn 62 = .ok (.getfield 86, 3) := by decide +kernel
theorem dX11_dutyOn_65 : decode cX11_dutyOn 65 = .ok (.iload_n 2, 1) := by decide +kernel
theorem dX11_dutyOn_66 : decode cX11_dutyOn 66 = .ok (.iaload, 1) := by decide +kernel
theorem dX11_dutyOn_67 : decode cX11_dutyOn 67 = .ok (.ireturn, 1) := by decide +kernel
theorem dX11_isRipe_0 : decode cX11_isRipe 0 = .ok (.iload_n 2, 1) := by decide +kernel
theorem dX11_isRipe_1 : decode cX11_isRipe 1 = .ok (.aload_n 0, 1) := by decide +kernel
theorem dX11_isRipe_2 : decode cX11_isRipe 2 = .ok (.getfield 17, 3) := by decide +kernel
theorem dX11_isRipe_5 : decode cX11_isRipe 5 = .ok (.iload_n 1, 1) := by decide +kernel
theorem dX11_isRipe_6 : decode cX11_isRipe 6 = .ok (.iaload, 1) := by decide +kernel
theorem dX11_isRipe_7 : decode cX11_isRipe 7 = .ok (.aload_n 0, 1) := by decide +kernel
theorem dX11_isRipe_8 : decode cX11_isRipe 8 = .ok (.getfield 20, 3) := by decide +kernel
theorem dX11_isRipe_11 : decode cX11_isRipe 11 = .ok (.iload_n 1, 1) := by decide +kernel
theorem dX11_isRipe_12 : decode cX11_isRipe 12 = .ok (.iaload, 1) := by decide +kernel
theorem dX11_isRipe_13 : decode cX11_isRipe 13 = .ok (.invokestatic 98, 3) := by decide +kernel
theorem dX11_isRipe_16 : decode cX11_isRipe 16 = .ok (.ireturn, 1) := by decide +kernel
theorem dX11_picks_0 : decode cX11_picks 0 = .ok (.aload_n 0, 1) := by decide +kernel
theorem dX11_picks_1 : decode cX11_picks 1 = .ok (.getfield 38, 3) := by decide +kernel
theorem dX11_picks_4 : decode cX11_picks 4 = .ok (.iload_n 1, 1) := by decide +kernel
theorem dX11_picks_5 : decode cX11_picks 5 = .ok (.iaload, 1) := by decide +kernel
theorem dX11_picks_6 : decode cX11_picks 6 = .ok (.istore_n 2, 1) := by decide +kernel
theorem dX11_picks_7 : decode cX11_picks 7 = .ok (.iload_n 2, 1) := by decide +kernel
theorem dX11_picks_8 : decode cX11_picks 8 = .ok (.bipush (-9), 2) := by decide +kernel
theorem dX11_picks_10 : decode cX11_picks 10 = .ok (.if_icmp .eq 18, 3) := by decide +kernel
theorem dX11_picks_13 : decode cX11_picks 13 = .ok (.aload_n 0, 1) := by decide +kernel
theorem dX11_picks_14 : decode cX11_picks 14 = .ok (.iload_n 2, 1) := by decide +kernel
theorem dX11_picks_15 : decode cX11_picks 15 = .ok (.aload_n 0, 1) := by decide +kernel
theorem dX11_picks_16 : decode cX11_picks 16 = .ok (.getfield 92, 3) := by decide +kernel
theorem dX11_picks_19 : decode cX11_picks 19 = .ok (.bipush 12, 2) := by decide +kernel
theorem dX11_picks_21 : decode cX11_picks 21 = .ok (.idiv, 1) := by decide +kernel
theorem dX11_picks_22 : decode cX11_picks 22 = .ok (.invokevirtual 136, 3) := by decide +kernel
theorem dX11_picks_25 : decode cX11_picks 25 = .ok (.ifCond .ne 4, 3) := by decide +kernel
theorem dX11_picks_28 : decode cX11_picks 28 = .ok (.return_, 1) := by decide +kernel
theorem dX11_picks_29 : decode cX11_picks 29 = .ok (.aload_n 0, 1) := by decide +kernel
theorem dX11_picks_30 : decode cX11_picks 30 = .ok (.getfield 32, 3) := by decide +kernel
theorem dX11_picks_33 : decode cX11_picks 33 = .ok (.iload_n 1, 1) := by decide +kernel
theorem dX11_picks_34 : decode cX11_picks 34 = .ok (.iaload, 1) := by decide +kernel
theorem dX11_picks_35 : decode cX11_picks 35 = .ok (.aload_n 0, 1) := by decide +kernel
theorem dX11_picks_36 : decode cX11_picks 36 = .ok (.getfield 13, 3) := by decide +kernel
theorem dX11_picks_39 : decode cX11_picks 39 = .ok (.iload_n 2, 1) := by decide +kernel
theorem dX11_picks_40 : decode cX11_picks 40 = .ok (.iaload, 1) := by decide +kernel
theorem dX11_picks_41 : decode cX11_picks 41 = .ok (.if_icmp .ge 12, 3) := by decide +kernel
theorem dX11_picks_44 : decode cX11_picks 44 = .ok (.aload_n 0, 1) := by decide +kernel
theorem dX11_picks_45 : decode cX11_picks 45 = .ok (.getfield 32, 3) := by decide +kernel
theorem dX11_picks_48 : decode cX11_picks 48 = .ok (.iload_n 1, 1) := by decide +kernel
theorem dX11_picks_49 : decode cX11_picks 49 = .ok (.iaload, 1) := by decide +kernel
theorem dX11_picks_50 : decode cX11_picks 50 = .ok (.goto 9, 3) := by decide +kernel
theorem dX11_picks_53 : decode cX11_picks 53 = .ok (.aload_n 0, 1) := by decide +kernel
theorem dX11_picks_54 : decode cX11_picks 54 = .ok (.getfield 13, 3) := by decide +kernel
theorem dX11_picks_57 : decode cX11_picks 57 = .ok (.iload_n 2, 1) := by decide +kernel
theorem dX11_picks_58 : decode cX11_picks 58 = .ok (.iaload, 1) := by decide +kernel
theorem dX11_picks_59 : decode cX11_picks 59 = .ok (.istore_n 3, 1) := by decide +kernel
theorem dX11_picks_60 : decode cX11_picks 60 = .ok (.aload_n 0, 1) := by decide +kernel
theorem dX11_picks_61 : decode cX11_picks 61 = .ok (.getfield 13, 3) := by decide +kernel
theorem dX11_picks_64 : decode cX11_picks 64 = .ok (.iload_n 2, 1) := by decide +kernel
theorem dX11_picks_65 : decode cX11_picks 65 = .ok (.dup2, 1) := by decide +kernel
theorem dX11_picks_66 : decode cX11_picks 66 = .ok (.iaload, 1) := by decide +kernel
theorem dX11_picks_67 : decode cX11_picks 67 = .ok (.iload_n 3, 1) := by decide +kernel
theorem dX11_picks_68 : decode cX11_picks 68 = .ok (.isub, 1) := by decide +kernel
theorem dX11_picks_69 : decode cX11_picks 69 = .ok (.iastore, 1) := by decide +kernel
theorem dX11_picks_70 : decode cX11_picks 70 = .ok (.aload_n 0, 1) := by decide +kernel
theorem dX11_picks_71 : decode cX11_picks 71 = .ok (.getfield 23, 3) := by decide +kernel
theorem dX11_picks_74 : decode cX11_picks 74 = .ok (.iload_n 2, 1) := by decide +kernel
theorem dX11_picks_75 : decode cX11_picks 75 = .ok (.dup2, 1) := by decide +kernel
theorem dX11_picks_76 : decode cX11_picks 76 = .ok (.iaload, 1) := by decide +kernel
theorem dX11_picks_77 : decode cX11_picks 77 = .ok (.iload_n 3, 1) := by decide +kernel
theorem dX11_picks_78 : decode cX11_picks 78 = .ok (.iadd, 1) := by decide +kernel
theorem dX11_picks_79 : decode cX11_picks 79 = .ok (.iastore, 1) := by decide +kernel
theorem dX11_picks_80 : decode cX11_picks 80 = .ok (.aload_n 0, 1) := by decide +kernel
theorem dX11_picks_81 : decode cX11_picks 81 = .ok (.getfield 50, 3) := by decide +kernel
theorem dX11_picks_84 : decode cX11_picks 84 = .ok (.bipush 6, 2) := by decide +kernel
theorem dX11_picks_86 : decode cX11_picks 86 = .ok (.aload_n 0, 1) := by decide +kernel
theorem dX11_picks_87 : decode cX11_picks 87 = .ok (.getfield 92, 3) := by decide +kernel
theorem dX11_picks_90 : decode cX11_picks 90 = .ok (.imul, 1) := by decide +kernel
theorem dX11_picks_91 : decode cX11_picks 91 = .ok (.iload_n 2, 1) := by decide +kernel
theorem dX11_picks_92 : decode cX11_picks 92 = .ok (.iadd, 1) := by decide +kernel
theorem dX11_picks_93 : decode cX11_picks 93 = .ok (.dup2, 1) := by decide +kernel
theorem dX11_picks_94 : decode cX11_picks 94 = .ok (.iaload, 1) := by decide +kernel
theorem dX11_picks_95 : decode cX11_picks 95 = .ok (.iload_n 3, 1) := by decide +kernel
theorem dX11_picks_96 : decode cX11_picks 96 = .ok (.iadd, 1) := by decide +kernel
theorem dX11_picks_97 : decode cX11_picks 97 = .ok (.iastore, 1) := by decide +kernel
theorem dX11_picks_98 : decode cX11_picks 98 = .ok (.iload_n 3, 1) := by decide +kernel
theorem dX11_picks_99 : decode cX11_picks 99 = .ok (.bipush 100, 2) := by decide +kernel
theorem dX11_picks_101 : decode cX11_picks 101 = .ok (.imul, 1) := by decide +kernel
theorem dX11_picks_102 : decode cX11_picks 102 = .ok (.aload_n 0, 1) := by decide +kernel
theorem dX11_picks_103 : decode cX11_picks 103 = .ok (.getfield 35, 3) := by decide +kernel
theorem dX11_picks_106 : decode cX11_picks 106 = .ok (.iload_n 1, 1) := by decide +kernel
theorem dX11_picks_107 : decode cX11_picks 107 = .ok (.iaload, 1) := by decide +kernel
theorem dX11_picks_108 : decode cX11_picks 108 = .ok (.idiv, 1) := by decide +kernel
theorem dX11_picks_109 : decode cX11_picks 109 = .ok (.istore 4, 2) := by decide +kernel
theorem dX11_picks_111 : decode cX11_picks 111 = .ok (.aload_n 0, 1) := by decide +kernel
theorem dX11_picks_112 : decode cX11_picks 112 = .ok (.getfield 41, 3) := by decide +kernel
theorem dX11_picks_115 : decode cX11_picks 115 = .ok (.iload_n 1, 1) := by decide +kernel
theorem dX11_picks_116 : decode cX11_picks 116 = .ok (.dup2, 1) := by decide +kernel
theorem dX11_picks_117 : decode cX11_picks 117 = .ok (.iaload, 1) := by decide +kernel
theorem dX11_picks_118 : decode cX11_picks 118 = .ok (.iload_n 3, 1) := by decide +kernel
theorem dX11_picks_119 : decode cX11_picks 119 = .ok (.iadd, 1) := by decide +kernel
theorem dX11_picks_120 : decode cX11_picks 120 = .ok (.iastore, 1) := by decide +kernel
theorem dX11_picks_121 : decode cX11_picks 121 = .ok (.aload_n 0, 1) := by decide +kernel
theorem dX11_picks_122 : decode cX11_picks 122 = .ok (.getfield 44, 3) := by decide +kernel
theorem dX11_picks_125 : decode cX11_picks 125 = .ok (.iload_n 1, 1) := by decide +kernel
theorem dX11_picks_126 : decode cX11_picks 126 = .ok (.dup2, 1) := by decide +kernel
theorem dX11_picks_127 : decode cX11_picks 127 = .ok (.iaload, 1) := by decide +kernel
theorem dX11_picks_128 : decode cX11_picks 128 = .ok (.iload 4, 2) := by decide +kernel
theorem dX11_picks_130 : decode cX11_picks 130 = .ok (.iadd, 1) := by decide +kernel
theorem dX11_picks_131 : decode cX11_picks 131 = .ok (.iastore, 1) := by decide +kernel
theorem dX11_picks_132 : decode cX11_picks 132 = .ok (.aload_n 0, 1) := by decide +kernel
theorem dX11_picks_133 : decode cX11_picks 133 = .ok (.getfield 47, 3) := by decide +kernel
theorem dX11_picks_136 : decode cX11_picks 136 = .ok (.iload_n 1, 1) := by decide +kernel
theorem dX11_picks_137 : decode cX11_picks 137 = .ok (.dup2, 1) := by decide +kernel
theorem dX11_picks_138 : decode cX11_picks 138 = .ok (.iaload, 1) := by decide +kernel
theorem dX11_picks_139 : decode cX11_picks 139 = .ok (.iload 4, 2) := by decide +kernel
theorem dX11_picks_141 : decode cX11_picks 141 = .ok (.aload_n 0, 1) := by decide +kernel
theorem dX11_picks_142 : decode cX11_picks 142 = .ok (.aload_n 0, 1) := by decide +kernel
theorem dX11_picks_143 : decode cX11_picks 143 = .ok (.getfield 92, 3) := by decide +kernel
theorem dX11_picks_146 : decode cX11_picks 146 = .ok (.invokevirtual 140, 3) := by decide +kernel
theorem dX11_picks_149 : decode cX11_picks 149 = .ok (.imul, 1) := by decide +kernel
theorem dX11_picks_150 : decode cX11_picks 150 = .ok (.iadd, 1) := by decide +kernel
theorem dX11_picks_151 : decode cX11_picks 151 = .ok (.iastore, 1) := by decide +kernel
theorem dX11_picks_152 : decode cX11_picks 152 = .ok (.return_, 1) := by decide +kernel
theorem dX11_presses_0 : decode cX11_presses 0 = .ok (.aload_n 0, 1) := by decide +kernel
theorem dX11_presses_1 : decode cX11_presses 1 = .ok (.getfield 29, 3) := by decide +kernel
theorem dX11_presses_4 : decode cX11_presses 4 = .ok (.iload_n 1, 1) := by decide +kernel
theorem dX11_presses_5 : decode cX11_presses 5 = .ok (.dup2, 1) := by decide +kernel
theorem dX11_presses_6 : decode cX11_presses 6 = .ok (.iaload, 1) := by decide +kernel
theorem dX11_presses_7 : decode cX11_presses 7 = .ok (.iconst 1, 1) := by decide +kernel
theorem dX11_presses_8 : decode cX11_presses 8 = .ok (.iadd, 1) := by decide +kernel
theorem dX11_presses_9 : decode cX11_presses 9 = .ok (.iastore, 1) := by decide +kernel
theorem dX11_presses_10 : decode cX11_presses 10 = .ok (.aload_n 0, 1) := by decide +kernel
theorem dX11_presses_11 : decode cX11_presses 11 = .ok (.dup, 1) := by decide +kernel
theorem dX11_presses_12 : decode cX11_presses 12 = .ok (.getfield 144, 3) := by decide +kernel
theorem dX11_presses_15 : decode cX11_presses 15 = .ok (.iconst 1, 1) := by decide +kernel
theorem dX11_presses_16 : decode cX11_presses 16 = .ok (.iadd, 1) := by decide +kernel
theorem dX11_presses_17 : decode cX11_presses 17 = .ok (.putfield 144, 3) := by decide +kernel
theorem dX11_presses_20 : decode cX11_presses 20 = .ok (.aload_n 0, 1) := by decide +kernel
theorem dX11_presses_21 : decode cX11_presses 21 = .ok (.dup, 1) := by decide +kernel
theorem dX11_presses_22 : decode cX11_presses 22 = .ok (.getfield 147, 3) := by decide +kernel
theorem dX11_presses_25 : decode cX11_presses 25 = .ok (.iconst 1, 1) := by decide +kernel
theorem dX11_presses_26 : decode cX11_presses 26 = .ok (.iload_n 1, 1) := by decide +kernel
theorem dX11_presses_27 : decode cX11_presses 27 = .ok (.ishl, 1) := by decide +kernel
theorem dX11_presses_28 : decode cX11_presses 28 = .ok (.ior, 1) := by decide +kernel
theorem dX11_presses_29 : decode cX11_presses 29 = .ok (.putfield 147, 3) := by decide +kernel
theorem dX11_presses_32 : decode cX11_presses 32 = .ok (.aload_n 0, 1) := by decide +kernel
theorem dX11_presses_33 : decode cX11_presses 33 = .ok (.getfield 144, 3) := by decide +kernel
theorem dX11_presses_36 : decode cX11_presses 36 = .ok (.bipush 20, 2) := by decide +kernel
theorem dX11_presses_38 : decode cX11_presses 38 = .ok (.if_icmp .ne 61, 3) := by decide +kernel
theorem dX11_presses_41 : decode cX11_presses 41 = .ok (.aload_n 0, 1) := by decide +kernel
theorem dX11_presses_42 : decode cX11_presses 42 = .ok (.getfield 150, 3) := by decide +kernel
theorem dX11_presses_45 : decode cX11_presses 45 = .ok (.bipush 100, 2) := by decide +kernel
theorem dX11_presses_47 : decode cX11_presses 47 = .ok (.if_icmp .ge 32, 3) := by decide +kernel
theorem dX11_presses_50 : decode cX11_presses 50 = .ok (.aload_n 0, 1) := by decide +kernel
theorem dX11_presses_51 : decode cX11_presses 51 = .ok (.getfield 71, 3) := by decide +kernel
theorem dX11_presses_54 : decode cX11_presses 54 = .ok (.aload_n 0, 1) := by decide +kernel
theorem dX11_presses_55 : decode cX11_presses 55 = .ok (.getfield 150, 3) := by decide +kernel
theorem dX11_presses_58 : decode cX11_presses 58 = .ok (.aload_n 0, 1) := by decide +kernel
theorem dX11_presses_59 : decode cX11_presses 59 = .ok (.getfield 147, 3) := by decide +kernel
theorem dX11_presses_62 : decode cX11_presses 62 = .ok (.iastore, 1) := by decide +kernel
theorem dX11_presses_63 : decode cX11_presses 63 = .ok (.aload_n 0, 1) := by decide +kernel
theorem dX11_presses_64 : decode cX11_presses 64 = .ok (.getfield 74, 3) := by decide +kernel
theorem dX11_presses_67 : decode cX11_presses 67 = .ok (.aload_n 0, 1) := by decide +kernel
theorem dX11_presses_68 : decode cX11_presses 68 = .ok (.getfield 150, 3) := by decide +kernel
theorem dX11_presses_71 : decode cX11_presses 71 = .ok (.aload_n 0, 1) := by decide +kernel
theorem dX11_presses_72 : decode cX11_presses 72 = .ok (.getfield 92, 3) := by decide +kernel
theorem dX11_presses_75 : decode cX11_presses 75 = .ok (.bipush 12, 2) := by decide +kernel
theorem dX11_presses_77 : decode cX11_presses 77 = .ok (.idiv, 1) := by decide +kernel
theorem dX11_presses_78 : decode cX11_presses 78 = .ok (.iastore, 1) := by decide +kernel
theorem dX11_presses_79 : decode cX11_presses 79 = .ok (.aload_n 0, 1) := by decide +kernel
theorem dX11_presses_80 : decode cX11_presses 80 = .ok (.dup, 1) := by decide +kernel
theorem dX11_presses_81 : decode cX11_presses 81 = .ok (.getfield 150, 3) := by decide +kernel
theorem dX11_presses_84 : decode cX11_presses 84 = .ok (.iconst 1, 1) := by decide +kernel
theorem dX11_presses_85 : decode cX11_presses 85 = .ok (.iadd, 1) := by decide +kernel
theorem dX11_presses_86 : decode cX11_presses 86 = .ok (.putfield 150, 3) := by decide +kernel
theorem dX11_presses_89 : decode cX11_presses 89 = .ok (.aload_n 0, 1) := by decide +kernel
theorem dX11_presses_90 : decode cX11_presses 90 = .ok (.iconst 0, 1) := by decide +kernel
theorem dX11_presses_91 : decode cX11_presses 91 = .ok (.putfield 144, 3) := by decide +kernel
theorem dX11_presses_94 : decode cX11_presses 94 = .ok (.aload_n 0, 1) := by decide +kernel
theorem dX11_presses_95 : decode cX11_presses 95 = .ok (.iconst 0, 1) := by decide +kernel
theorem dX11_presses_96 : decode cX11_presses 96 = .ok (.putfield 147, 3) := by decide +kernel
theorem dX11_presses_99 : decode cX11_presses 99 = .ok (.return_, 1) := by decide +kernel
theorem dX11_dries_0 : decode cX11_dries 0 = .ok (.aload_n 0, 1) := by decide +kernel
theorem dX11_dries_1 : decode cX11_dries 1 = .ok (.getfield 65, 3) := by decide +kernel
theorem dX11_dries_4 : decode cX11_dries 4 = .ok (.iload_n 1, 1) := by decide +kernel
theorem dX11_dries_5 : decode cX11_dries 5 = .ok (.iaload, 1) := by decide +kernel
theorem dX11_dries_6 : decode cX11_dries 6 = .ok (.ifCond .ne 4, 3) := by decide +kernel
theorem dX11_dries_9 : decode cX11_dries 9 = .ok (.return_, 1) := by decide +kernel
theorem dX11_dries_10 : decode cX11_dries 10 = .ok (.aload_n 0, 1) := by decide +kernel
theorem dX11_dries_11 : decode cX11_dries 11 = .ok (.getfield 62, 3) := by decide +kernel
theorem dX11_dries_14 : decode cX11_dries 14 = .ok (.iload_n 1, 1) := by decide +kernel
theorem dX11_dries_15 : decode cX11_dries 15 = .ok (.dup2, 1) := by decide +kernel
theorem dX11_dries_16 : decode cX11_dries 16 = .ok (.iaload, 1) := by decide +kernel
theorem dX11_dries_17 : decode cX11_dries 17 = .ok (.aload_n 0, 1) := by decide +kernel
theorem dX11_dries_18 : decode cX11_dries 18 = .ok (.getfield 53, 3) := by decide +kernel
theorem dX11_dries_21 : decode cX11_dries 21 = .ok (.iload_n 1, 1) := by decide +kernel
theorem dX11_dries_22 : decode cX11_dries 22 = .ok (.iaload, 1) := by decide +kernel
theorem dX11_dries_23 : decode cX11_dries 23 = .ok (.aload_n 0, 1) := by decide +kernel
theorem dX11_dries_24 : decode cX11_dries 24 = .ok (.getfield 59, 3) := by decide +kernel
theorem dX11_dries_27 : decode cX11_dries 27 = .ok (.iload_n 1, 1) := by decide +kernel
theorem dX11_dries_28 : decode cX11_dries 28 = .ok (.iaload, 1) := by decide +kernel
theorem dX11_dries_29 : decode cX11_dries 29 = .ok (.invokestatic 126, 3) := by decide +kernel
theorem dX11_dries_32 : decode cX11_dries 32 = .ok (.iadd, 1) := by decide +kernel
theorem dX11_dries_33 : decode cX11_dries 33 = .ok (.iastore, 1) := by decide +kernel
theorem dX11_dries_34 : decode cX11_dries 34 = .ok (.aload_n 0, 1) := by decide +kernel
theorem dX11_dries_35 : decode cX11_dries 35 = .ok (.getfield 62, 3) := by decide +kernel
theorem dX11_dries_38 : decode cX11_dries 38 = .ok (.iload_n 1, 1) := by decide +kernel
theorem dX11_dries_39 : decode cX11_dries 39 = .ok (.iaload, 1) := by decide +kernel
theorem dX11_dries_40 : decode cX11_dries 40 = .ok (.bipush 60, 2) := by decide +kernel
theorem dX11_dries_42 : decode cX11_dries 42 = .ok (.if_icmp .lt 51, 3) := by decide +kernel
theorem dX11_dries_45 : decode cX11_dries 45 = .ok (.iconst 0, 1) := by decide +kernel
theorem dX11_dries_46 : decode cX11_dries 46 = .ok (.istore_n 2, 1) := by decide +kernel
theorem dX11_dries_47 : decode cX11_dries 47 = .ok (.iload_n 2, 1) := by decide +kernel
theorem dX11_dries_48 : decode cX11_dries 48 = .ok (.aload_n 0, 1) := by decide +kernel
theorem dX11_dries_49 : decode cX11_dries 49 = .ok (.getfield 65, 3) := by decide +kernel
theorem dX11_dries_52 : decode cX11_dries 52 = .ok (.iload_n 1, 1) := by decide +kernel
theorem dX11_dries_53 : decode cX11_dries 53 = .ok (.iaload, 1) := by decide +kernel
theorem dX11_dries_54 : decode cX11_dries 54 = .ok (.if_icmp .ge 25, 3) := by decide +kernel
theorem dX11_dries_57 : decode cX11_dries 57 = .ok (.aload_n 0, 1) := by decide +kernel
theorem dX11_dries_58 : decode cX11_dries 58 = .ok (.aload_n 0, 1) := by decide +kernel
theorem dX11_dries_59 : decode cX11_dries 59 = .ok (.getfield 68, 3) := by decide +kernel
theorem dX11_dries_62 : decode cX11_dries 62 = .ok (.sipush 200, 3) := by decide +kernel
theorem dX11_dries_65 : decode cX11_dries 65 = .ok (.iload_n 1, 1) := by decide +kernel
theorem dX11_dries_66 : decode cX11_dries 66 = .ok (.imul, 1) := by decide +kernel
theorem dX11_dries_67 : decode cX11_dries 67 = .ok (.iload_n 2, 1) := by decide +kernel
theorem dX11_dries_68 : decode cX11_dries 68 = .ok (.iadd, 1) := by decide +kernel
theorem dX11_dries_69 : decode cX11_dries 69 = .ok (.iaload, 1) := by decide +kernel
theorem dX11_dries_70 : decode cX11_dries 70 = .ok (.invokevirtual 153, 3) := by decide +kernel
theorem dX11_dries_73 : decode cX11_dries 73 = .ok (.iinc 2 1, 3) := by decide +kernel
theorem dX11_dries_76 : decode cX11_dries 76 = .ok (.goto (-29), 3) := by decide +kernel
theorem dX11_dries_79 : decode cX11_dries 79 = .ok (.aload_n 0, 1) := by decide +kernel
theorem dX11_dries_80 : decode cX11_dries 80 = .ok (.getfield 65, 3) := by decide +kernel
theorem dX11_dries_83 : decode cX11_dries 83 = .ok (.iload_n 1, 1) := by decide +kernel
theorem dX11_dries_84 : decode cX11_dries 84 = .ok (.iconst 0, 1) := by decide +kernel
theorem dX11_dries_85 : decode cX11_dries 85 = .ok (.iastore, 1) := by decide +kernel
theorem dX11_dries_86 : decode cX11_dries 86 = .ok (.aload_n 0, 1) := by decide +kernel
theorem dX11_dries_87 : decode cX11_dries 87 = .ok (.getfield 62, 3) := by decide +kernel
theorem dX11_dries_90 : decode cX11_dries 90 = .ok (.iload_n 1, 1) := by decide +kernel
theorem dX11_dries_91 : decode cX11_dries 91 = .ok (.iconst 0, 1) := by decide +kernel
theorem dX11_dries_92 : decode cX11_dries 92 = .ok (.iastore, 1) := by decide +kernel
theorem dX11_dries_93 : decode cX11_dries 93 = .ok (.return_, 1) := by decide +kernel
theorem dX11_spoils_0 : decode cX11_spoils 0 = .ok (.iconst 0, 1) := by decide +kernel
theorem dX11_spoils_1 : decode cX11_spoils 1 = .ok (.istore_n 1, 1) := by decide +kernel
theorem dX11_spoils_2 : decode cX11_spoils 2 = .ok (.iload_n 1, 1) := by decide +kernel
theorem dX11_spoils_3 : decode cX11_spoils 3 = .ok (.aload_n 0, 1) := by decide +kernel
theorem dX11_spoils_4 : decode cX11_spoils 4 = .ok (.getfield 92, 3) := by decide +kernel
theorem dX11_spoils_7 : decode cX11_spoils 7 = .ok (.aload_n 0, 1) := by decide +kernel
theorem dX11_spoils_8 : decode cX11_spoils 8 = .ok (.getfield 7, 3) := by decide +kernel
theorem dX11_spoils_11 : decode cX11_spoils 11 = .ok (.isub, 1) := by decide +kernel
theorem dX11_spoils_12 : decode cX11_spoils 12 = .ok (.if_icmp .gt 57, 3) := by decide +kernel
theorem dX11_spoils_15 : decode cX11_spoils 15 = .ok (.iconst 0, 1) := by decide +kernel
theorem dX11_spoils_16 : decode cX11_spoils 16 = .ok (.istore_n 2, 1) := by decide +kernel
theorem dX11_spoils_17 : decode cX11_spoils 17 = .ok (.iload_n 2, 1) := by decide +kernel
theorem dX11_spoils_18 : decode cX11_spoils 18 = .ok (.aload_n 0, 1) := by decide +kernel
theorem dX11_spoils_19 : decode cX11_spoils 19 = .ok (.getfield 95, 3) := by decide +kernel
theorem dX11_spoils_22 : decode cX11_spoils 22 = .ok (.if_icmp .ge 41, 3) := by decide +kernel
theorem dX11_spoils_25 : decode cX11_spoils 25 = .ok (.aload_n 0, 1) := by decide +kernel
theorem dX11_spoils_26 : decode cX11_spoils 26 = .ok (.getfield 26, 3) := by decide +kernel
theorem dX11_spoils_29 : decode cX11_spoils 29 = .ok (.iload_n 2, 1) := by decide +kernel
theorem dX11_spoils_30 : decode cX11_spoils 30 = .ok (.dup2, 1) := by decide +kernel
theorem dX11_spoils_31 : decode cX11_spoils 31 = .ok (.iaload, 1) := by decide +kernel
theorem dX11_spoils_32 : decode cX11_spoils 32 = .ok (.aload_n 0, 1) := by decide +kernel
theorem dX11_spoils_33 : decode cX11_spoils 33 = .ok (.getfield 50, 3) := by decide +kernel
theorem dX11_spoils_36 : decode cX11_spoils 36 = .ok (.bipush 6, 2) := by decide +kernel
theorem dX11_spoils_38 : decode cX11_spoils 38 = .ok (.iload_n 1, 1) := by decide +kernel
theorem dX11_spoils_39 : decode cX11_spoils 39 = .ok (.imul, 1) := by decide +kernel
theorem dX11_spoils_40 : decode cX11_spoils 40 = .ok (.iload_n 2, 1) := by decide +kernel
theorem dX11_spoils_41 : decode cX11_spoils 41 = .ok (.iadd, 1) := by decide +kernel
theorem dX11_spoils_42 : decode cX11_spoils 42 = .ok (.iaload, 1) := by decide +kernel
theorem dX11_spoils_43 : decode cX11_spoils 43 = .ok (.iadd, 1) := by decide +kernel
theorem dX11_spoils_44 : decode cX11_spoils 44 = .ok (.iastore, 1) := by decide +kernel
theorem dX11_spoils_45 : decode cX11_spoils 45 = .ok (.aload_n 0, 1) := by decide +kernel
theorem dX11_spoils_46 : decode cX11_spoils 46 = .ok (.getfield 50, 3) := by decide +kernel
theorem dX11_spoils_49 : decode cX11_spoils 49 = .ok (.bipush 6, 2) := by decide +kernel
theorem dX11_spoils_51 : decode cX11_spoils 51 = .ok (.iload_n 1, 1) := by decide +kernel
theorem dX11_spoils_52 : decode cX11_spoils 52 = .ok (.imul, 1) := by decide +kernel
theorem dX11_spoils_53 : decode cX11_spoils 53 = .ok (.iload_n 2, 1) := by decide +kernel
theorem dX11_spoils_54 : decode cX11_spoils 54 = .ok (.iadd, 1) := by decide +kernel
theorem dX11_spoils_55 : decode cX11_spoils 55 = .ok (.iconst 0, 1) := by decide +kernel
theorem dX11_spoils_56 : decode cX11_spoils 56 = .ok (.iastore, 1) := by decide +kernel
