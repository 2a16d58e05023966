theorem d_Mo_init_0 : decode b_Mo_init 0 = .ok (.aload_n 0, 1) := by decide +kernel
theorem d_Mo_init_1 : decode b_Mo_init 1 = .ok (.invokespecial 1, 3) := by decide +kernel
theorem d_Mo_init_4 : decode b_Mo_init 4 = .ok (.aload_n 0, 1) := by decide +kernel
theorem d_Mo_init_5 : decode b_Mo_init 5 = .ok (.bipush 40, 2) := by decide +kernel
theorem d_Mo_init_7 : decode b_Mo_init 7 = .ok (.newarray .int, 2) := by decide +kernel
theorem d_Mo_init_9 : decode b_Mo_init 9 = .ok (.putfield 7, 3) := by decide +kernel
theorem d_Mo_init_12 : decode b_Mo_init 12 = .ok (.aload_n 0, 1) := by decide +kernel
theorem d_Mo_init_13 : decode b_Mo_init 13 = .ok (.bipush 40, 2) := by decide +kernel
theorem d_Mo_init_15 : decode b_Mo_init 15 = .ok (.newarray .int, 2) := by decide +kernel
theorem d_Mo_init_17 : decode b_Mo_init 17 = .ok (.putfield 13, 3) := by decide +kernel
theorem d_Mo_init_20 : decode b_Mo_init 20 = .ok (.aload_n 0, 1) := by decide +kernel
theorem d_Mo_init_21 : decode b_Mo_init 21 = .ok (.bipush 40, 2) := by decide +kernel
theorem d_Mo_init_23 : decode b_Mo_init 23 = .ok (.newarray .int, 2) := by decide +kernel
theorem d_Mo_init_25 : decode b_Mo_init 25 = .ok (.putfield 16, 3) := by decide +kernel
theorem d_Mo_init_28 : decode b_Mo_init 28 = .ok (.aload_n 0, 1) := by decide +kernel
theorem d_Mo_init_29 : decode b_Mo_init 29 = .ok (.sipush 480, 3) := by decide +kernel
theorem d_Mo_init_32 : decode b_Mo_init 32 = .ok (.newarray .int, 2) := by decide +kernel
theorem d_Mo_init_34 : decode b_Mo_init 34 = .ok (.putfield 19, 3) := by decide +kernel
theorem d_Mo_init_37 : decode b_Mo_init 37 = .ok (.aload_n 0, 1) := by decide +kernel
theorem d_Mo_init_38 : decode b_Mo_init 38 = .ok (.sipush 480, 3) := by decide +kernel
theorem d_Mo_init_41 : decode b_Mo_init 41 = .ok (.newarray .long, 2) := by decide +kernel
theorem d_Mo_init_43 : decode b_Mo_init 43 = .ok (.putfield 22, 3) := by decide +kernel
theorem d_Mo_init_46 : decode b_Mo_init 46 = .ok (.aload_n 0, 1) := by decide +kernel
theorem d_Mo_init_47 : decode b_Mo_init 47 = .ok (.bipush 40, 2) := by decide +kernel
theorem d_Mo_init_49 : decode b_Mo_init 49 = .ok (.newarray .long, 2) := by decide +kernel
theorem d_Mo_init_51 : decode b_Mo_init 51 = .ok (.putfield 26, 3) := by decide +kernel
theorem d_Mo_init_54 : decode b_Mo_init 54 = .ok (.aload_n 0, 1) := by decide +kernel
theorem d_Mo_init_55 : decode b_Mo_init 55 = .ok (.bipush 40, 2) := by decide +kernel
theorem d_Mo_init_57 : decode b_Mo_init 57 = .ok (.newarray .boolean, 2) := by decide +kernel
theorem d_Mo_init_59 : decode b_Mo_init 59 = .ok (.putfield 29, 3) := by decide +kernel
theorem d_Mo_init_62 : decode b_Mo_init 62 = .ok (.aload_n 0, 1) := by decide +kernel
theorem d_Mo_init_63 : decode b_Mo_init 63 = .ok (.bipush 40, 2) := by decide +kernel
theorem d_Mo_init_65 : decode b_Mo_init 65 = .ok (.newarray .int, 2) := by decide +kernel
theorem d_Mo_init_67 : decode b_Mo_init 67 = .ok (.putfield 33, 3) := by decide +kernel
theorem d_Mo_init_70 : decode b_Mo_init 70 = .ok (.aload_n 0, 1) := by decide +kernel
theorem d_Mo_init_71 : decode b_Mo_init 71 = .ok (.bipush 40, 2) := by decide +kernel
theorem d_Mo_init_73 : decode b_Mo_init 73 = .ok (.newarray .long, 2) := by decide +kernel
theorem d_Mo_init_75 : decode b_Mo_init 75 = .ok (.putfield 36, 3) := by decide +kernel
theorem d_Mo_init_78 : decode b_Mo_init 78 = .ok (.aload_n 0, 1) := by decide +kernel
theorem d_Mo_init_79 : decode b_Mo_init 79 = .ok (.bipush 8, 2) := by decide +kernel
theorem d_Mo_init_81 : decode b_Mo_init 81 = .ok (.newarray .long, 2) := by decide +kernel
theorem d_Mo_init_83 : decode b_Mo_init 83 = .ok (.putfield 39, 3) := by decide +kernel
theorem d_Mo_init_86 : decode b_Mo_init 86 = .ok (.aload_n 0, 1) := by decide +kernel
theorem d_Mo_init_87 : decode b_Mo_init 87 = .ok (.bipush 6, 2) := by decide +kernel
theorem d_Mo_init_89 : decode b_Mo_init 89 = .ok (.newarray .int, 2) := by decide +kernel
theorem d_Mo_init_91 : decode b_Mo_init 91 = .ok (.putfield 42, 3) := by decide +kernel
theorem d_Mo_init_94 : decode b_Mo_init 94 = .ok (.aload_n 0, 1) := by decide +kernel
theorem d_Mo_init_95 : decode b_Mo_init 95 = .ok (.bipush 6, 2) := by decide +kernel
theorem d_Mo_init_97 : decode b_Mo_init 97 = .ok (.newarray .int, 2) := by decide +kernel
theorem d_Mo_init_99 : decode b_Mo_init 99 = .ok (.putfield 45, 3) := by decide +kernel
theorem d_Mo_init_102 : decode b_Mo_init 102 = .ok (.aload_n 0, 1) := by decide +kernel
theorem d_Mo_init_103 : decode b_Mo_init 103 = .ok (.bipush 6, 2) := by decide +kernel
theorem d_Mo_init_105 : decode b_Mo_init 105 = .ok (.newarray .int, 2) := by decide +kernel
theorem d_Mo_init_107 : decode b_Mo_init 107 = .ok (.dup, 1) := by decide +kernel
theorem d_Mo_init_108 : decode b_Mo_init 108 = .ok (.iconst 0, 1) := by decide +kernel
theorem d_Mo_init_109 : decode b_Mo_init 109 = .ok (.iconst (-1), 1) := by decide +kernel
theorem d_Mo_init_110 : decode b_Mo_init 110 = .ok (.iastore, 1) := by decide +kernel
theorem d_Mo_init_111 : decode b_Mo_init 111 = .ok (.dup, 1) := by decide +kernel
theorem d_Mo_init_112 : decode b_Mo_init 112 = .ok (.iconst 1, 1) := by decide +kernel
theorem d_Mo_init_113 : decode b_Mo_init 113 = .ok (.iconst (-1), 1) := by decide +kernel
theorem d_Mo_init_114 : decode b_Mo_init 114 = .ok (.iastore, 1) := by decide +kernel
theorem d_Mo_init_115 : decode b_Mo_init 115 = .ok (.dup, 1) := by decide +kernel
theorem d_Mo_init_116 : decode b_Mo_init 116 = .ok (.iconst 2, 1) := by decide +kernel
theorem d_Mo_init_117 : decode b_Mo_init 117 = .ok (.iconst (-1), 1) := by decide +kernel
theorem d_Mo_init_118 : decode b_Mo_init 118 = .ok (.iastore, 1) := by decide +kernel
theorem d_Mo_init_119 : decode b_Mo_init 119 = .ok (.dup, 1) := by decide +kernel
theorem d_Mo_init_120 : decode b_Mo_init 120 = .ok (.iconst 3, 1) := by decide +kernel
theorem d_Mo_init_121 : decode b_Mo_init 121 = .ok (.iconst (-1), 1) := by decide +kernel
theorem d_Mo_init_122 : decode b_Mo_init 122 = .ok (.iastore, 1) := by decide +kernel
theorem d_Mo_init_123 : decode b_Mo_init 123 = .ok (.dup, 1) := by decide +kernel
theorem d_Mo_init_124 : decode b_Mo_init 124 = .ok (.iconst 4, 1) := by decide +kernel
theorem d_Mo_init_125 : decode b_Mo_init 125 = .ok (.iconst (-1), 1) := by decide +kernel
theorem d_Mo_init_126 : decode b_Mo_init 126 = .ok (.iastore, 1) := by decide +kernel
theorem d_Mo_init_127 : decode b_Mo_init 127 = .ok (.dup, 1) := by decide +kernel
theorem d_Mo_init_128 : decode b_Mo_init 128 = .ok (.iconst 5, 1) := by decide +kernel
theorem d_Mo_init_129 : decode b_Mo_init 129 = .ok (.iconst (-1), 1) := by decide +kernel
theorem d_Mo_init_130 : decode b_Mo_init 130 = .ok (.iastore, 1) := by decide +kernel
theorem d_Mo_init_131 : decode b_Mo_init 131 = .ok (.putfield 48, 3) := by decide +kernel
theorem d_Mo_init_134 : decode b_Mo_init 134 = .ok (.aload_n 0, 1) := by decide +kernel
theorem d_Mo_init_135 : decode b_Mo_init 135 = .ok (.bipush 6, 2) := by decide +kernel
theorem d_Mo_init_137 : decode b_Mo_init 137 = .ok (.newarray .int, 2) := by decide +kernel
theorem d_Mo_init_139 : decode b_Mo_init 139 = .ok (.putfield 51, 3) := by decide +kernel
theorem d_Mo_init_142 : decode b_Mo_init 142 = .ok (.aload_n 0, 1) := by decide +kernel
theorem d_Mo_init_143 : decode b_Mo_init 143 = .ok (.bipush 16, 2) := by decide +kernel
theorem d_Mo_init_145 : decode b_Mo_init 145 = .ok (.newarray .int, 2) := by decide +kernel
theorem d_Mo_init_147 : decode b_Mo_init 147 = .ok (.putfield 54, 3) := by decide +kernel
theorem d_Mo_init_150 : decode b_Mo_init 150 = .ok (.aload_n 0, 1) := by decide +kernel
theorem d_Mo_init_151 : decode b_Mo_init 151 = .ok (.bipush 8, 2) := by decide +kernel
theorem d_Mo_init_153 : decode b_Mo_init 153 = .ok (.newarray .int, 2) := by decide +kernel
theorem d_Mo_init_155 : decode b_Mo_init 155 = .ok (.putfield 57, 3) := by decide +kernel
theorem d_Mo_init_158 : decode b_Mo_init 158 = .ok (.aload_n 0, 1) := by decide +kernel
theorem d_Mo_init_159 : decode b_Mo_init 159 = .ok (.bipush 8, 2) := by decide +kernel
theorem d_Mo_init_161 : decode b_Mo_init 161 = .ok (.newarray .int, 2) := by decide +kernel
theorem d_Mo_init_163 : decode b_Mo_init 163 = .ok (.putfield 60, 3) := by decide +kernel
theorem d_Mo_init_166 : decode b_Mo_init 166 = .ok (.aload_n 0, 1) := by decide +kernel
theorem d_Mo_init_167 : decode b_Mo_init 167 = .ok (.iconst 4, 1) := by decide +kernel
theorem d_Mo_init_168 : decode b_Mo_init 168 = .ok (.newarray .long, 2) := by decide +kernel
theorem d_Mo_init_170 : decode b_Mo_init 170 = .ok (.putfield 63, 3) := by decide +kernel
theorem d_Mo_init_173 : decode b_Mo_init 173 = .ok (.aload_n 0, 1) := by decide +kernel
theorem d_Mo_init_174 : decode b_Mo_init 174 = .ok (.iconst 4, 1) := by decide +kernel
theorem d_Mo_init_175 : decode b_Mo_init 175 = .ok (.newarray .int, 2) := by decide +kernel
theorem d_Mo_init_177 : decode b_Mo_init 177 = .ok (.dup, 1) := by decide +kernel
theorem d_Mo_init_178 : decode b_Mo_init 178 = .ok (.iconst 0, 1) := by decide +kernel
theorem d_Mo_init_179 : decode b_Mo_init 179 = .ok (.iconst (-1), 1) := by decide +kernel
theorem d_Mo_init_180 : decode b_Mo_init 180 = .ok (.iastore, 1) := by decide +kernel
theorem d_Mo_init_181 : decode b_Mo_init 181 = .ok (.dup, 1) := by decide +kernel
theorem d_Mo_init_182 : decode b_Mo_init 182 = .ok (.iconst 1, 1) := by decide +kernel
theorem d_Mo_init_183 : decode b_Mo_init 183 = .ok (.iconst (-1), 1) := by decide +kernel
theorem d_Mo_init_184 : decode b_Mo_init 184 = .ok (.iastore, 1) := by decide +kernel
theorem d_Mo_init_185 : decode b_Mo_init 185 = .ok (.dup, 1) := by decide +kernel
theorem d_Mo_init_186 : decode b_Mo_init 186 = .ok (.iconst 2, 1) := by decide +kernel
theorem d_Mo_init_187 : decode b_Mo_init 187 = .ok (.iconst (-1), 1) := by decide +kernel
theorem d_Mo_init_188 : decode b_Mo_init 188 = .ok (.iastore, 1) := by decide +kernel
theorem d_Mo_init_189 : decode b_Mo_init 189 = .ok (.dup, 1) := by decide +kernel
theorem d_Mo_init_190 : decode b_Mo_init 190 = .ok (.iconst 3, 1) := by decide +kernel
theorem d_Mo_init_191 : decode b_Mo_init 191 = .ok (.iconst (-1), 1) := by decide +kernel
theorem d_Mo_init_192 : decode b_Mo_init 192 = .ok (.iastore, 1) := by decide +kernel
theorem d_Mo_init_193 : decode b_Mo_init 193 = .ok (.putfield 66, 3) := by decide +kernel
theorem d_Mo_init_196 : decode b_Mo_init 196 = .ok (.aload_n 0, 1) := by decide +kernel
theorem d_Mo_init_197 : decode b_Mo_init 197 = .ok (.bipush 8, 2) := by decide +kernel
theorem d_Mo_init_199 : decode b_Mo_init 199 = .ok (.newarray .long, 2) := by decide +kernel
theorem d_Mo_init_201 : decode b_Mo_init 201 = .ok (.putfield 69, 3) := by decide +kernel
theorem d_Mo_init_204 : decode b_Mo_init 204 = .ok (.aload_n 0, 1) := by decide +kernel
theorem d_Mo_init_205 : decode b_Mo_init 205 = .ok (.iconst 4, 1) := by decide +kernel
theorem d_Mo_init_206 : decode b_Mo_init 206 = .ok (.newarray .long, 2) := by decide +kernel
theorem d_Mo_init_208 : decode b_Mo_init 208 = .ok (.putfield 72, 3) := by decide +kernel
theorem d_Mo_init_211 : decode b_Mo_init 211 = .ok (.aload_n 0, 1) := by decide +kernel
theorem d_Mo_init_212 : decode b_Mo_init 212 = .ok (.iconst 4, 1) := by decide +kernel
theorem d_Mo_init_213 : decode b_Mo_init 213 = .ok (.newarray .boolean, 2) := by decide +kernel
theorem d_Mo_init_215 : decode b_Mo_init 215 = .ok (.putfield 75, 3) := by decide +kernel
theorem d_Mo_init_218 : decode b_Mo_init 218 = .ok (.aload_n 0, 1) := by decide +kernel
theorem d_Mo_init_219 : decode b_Mo_init 219 = .ok (.iload_n 1, 1) := by decide +kernel
theorem d_Mo_init_220 : decode b_Mo_init 220 = .ok (.iconst 1, 1) := by decide +kernel
theorem d_Mo_init_221 : decode b_Mo_init 221 = .ok (.if_icmp .ge 7, 3) := by decide +kernel
theorem d_Mo_init_224 : decode b_Mo_init 224 = .ok (.iconst 1, 1) := by decide +kernel
theorem d_Mo_init_225 : decode b_Mo_init 225 = .ok (.goto 15, 3) := by decide +kernel
theorem d_Mo_init_228 : decode b_Mo_init 228 = .ok (.iload_n 1, 1) := by decide +kernel
theorem d_Mo_init_229 : decode b_Mo_init 229 = .ok (.bipush 100, 2) := by decide +kernel
theorem d_Mo_init_231 : decode b_Mo_init 231 = .ok (.if_icmp .le 8, 3) := by decide +kernel
theorem d_Mo_init_234 : decode b_Mo_init 234 = .ok (.bipush 100, 2) := by decide +kernel
theorem d_Mo_init_236 : decode b_Mo_init 236 = .ok (.goto 4, 3) := by decide +kernel
theorem d_Mo_init_239 : decode b_Mo_init 239 = .ok (.iload_n 1, 1) := by decide +kernel
theorem d_Mo_init_240 : decode b_Mo_init 240 = .ok (.putfield 78, 3) := by decide +kernel
theorem d_Mo_init_243 : decode b_Mo_init 243 = .ok (.return_, 1) := by decide +kernel
theorem d_Mo_thrown_0 : decode b_Mo_thrown 0 = .ok (.aload_n 0, 1) := by decide +kernel
theorem d_Mo_thrown_1 : decode b_Mo_thrown 1 = .ok (.getfield 82, 3) := by decide +kernel
theorem d_Mo_thrown_4 : decode b_Mo_thrown 4 = .ok (.ireturn, 1) := by decide +kernel
theorem d_Mo_within_0 : decode b_Mo_within 0 = .ok (.lload_n 0, 1) := by decide +kernel
theorem d_Mo_within_1 : decode b_Mo_within 1 = .ok (.lload_n 2, 1) := by decide +kernel
theorem d_Mo_within_2 : decode b_Mo_within 2 = .ok (.lcmp, 1) := by decide +kernel
theorem d_Mo_within_3 : decode b_Mo_within 3 = .ok (.ifCond .lt 14, 3) := by decide +kernel
theorem d_Mo_within_6 : decode b_Mo_within 6 = .ok (.lload_n 0, 1) := by decide +kernel
theorem d_Mo_within_7 : decode b_Mo_within 7 = .ok (.lload 4, 2) := by decide +kernel
theorem d_Mo_within_9 : decode b_Mo_within 9 = .ok (.lcmp, 1) := by decide +kernel
theorem d_Mo_within_10 : decode b_Mo_within 10 = .ok (.ifCond .gt 7, 3) := by decide +kernel
theorem d_Mo_within_13 : decode b_Mo_within 13 = .ok (.iconst 1, 1) := by decide +kernel
theorem d_Mo_within_14 : decode b_Mo_within 14 = .ok (.goto 4, 3) := by decide +kernel
theorem d_Mo_within_17 : decode b_Mo_within 17 = .ok (.iconst 0, 1) := by decide +kernel
theorem d_Mo_within_18 : decode b_Mo_within 18 = .ok (.ireturn, 1) := by decide +kernel
theorem d_Mo_isRule_0 : decode b_Mo_isRule 0 = .ok (.iload_n 1, 1) := by decide +kernel
theorem d_Mo_isRule_1 : decode b_Mo_isRule 1 = .ok (.i2l, 1) := by decide +kernel
theorem d_Mo_isRule_2 : decode b_Mo_isRule 2 = .ok (.lconst 0, 1) := by decide +kernel
theorem d_Mo_isRule_3 : decode b_Mo_isRule 3 = .ok (.aload_n 0, 1) := by decide +kernel
theorem d_Mo_isRule_4 : decode b_Mo_isRule 4 = .ok (.getfield 85, 3) := by decide +kernel
theorem d_Mo_isRule_7 : decode b_Mo_isRule 7 = .ok (.iconst 1, 1) := by decide +kernel
theorem d_Mo_isRule_8 : decode b_Mo_isRule 8 = .ok (.isub, 1) := by decide +kernel
theorem d_Mo_isRule_9 : decode b_Mo_isRule 9 = .ok (.i2l, 1) := by decide +kernel
theorem d_Mo_isRule_10 : decode b_Mo_isRule 10 = .ok (.invokestatic 88, 3) := by decide +kernel
theorem d_Mo_isRule_13 : decode b_Mo_isRule 13 = .ok (.ireturn, 1) := by decide +kernel
theorem d_Mo_isEdition_0 : decode b_Mo_isEdition 0 = .ok (.iload_n 0, 1) := by decide +kernel
theorem d_Mo_isEdition_1 : decode b_Mo_isEdition 1 = .ok (.i2l, 1) := by decide +kernel
theorem d_Mo_isEdition_2 : decode b_Mo_isEdition 2 = .ok (.lconst 0, 1) := by decide +kernel
theorem d_Mo_isEdition_3 : decode b_Mo_isEdition 3 = .ok (.ldc2_w 92, 3) := by decide +kernel
theorem d_Mo_isEdition_6 : decode b_Mo_isEdition 6 = .ok (.invokestatic 88, 3) := by decide +kernel
theorem d_Mo_isEdition_9 : decode b_Mo_isEdition 9 = .ok (.ireturn, 1) := by decide +kernel
theorem d_Mo_rule_0 : decode b_Mo_rule 0 = .ok (.aload_n 0, 1) := by decide +kernel
theorem d_Mo_rule_1 : decode b_Mo_rule 1 = .ok (.iconst 0, 1) := by decide +kernel
theorem d_Mo_rule_2 : decode b_Mo_rule 2 = .ok (.putfield 82, 3) := by decide +kernel
theorem d_Mo_rule_5 : decode b_Mo_rule 5 = .ok (.iload_n 1, 1) := by decide +kernel
theorem d_Mo_rule_6 : decode b_Mo_rule 6 = .ok (.invokestatic 94, 3) := by decide +kernel
theorem d_Mo_rule_9 : decode b_Mo_rule 9 = .ok (.ifCond .eq 27, 3) := by decide +kernel
theorem d_Mo_rule_12 : decode b_Mo_rule 12 = .ok (.iload_n 2, 1) := by decide +kernel
theorem d_Mo_rule_13 : decode b_Mo_rule 13 = .ok (.i2l, 1) := by decide +kernel
theorem d_Mo_rule_14 : decode b_Mo_rule 14 = .ok (.lconst 0, 1) := by decide +kernel
theorem d_Mo_rule_15 : decode b_Mo_rule 15 = .ok (.ldc2_w 98, 3) := by decide +kernel
theorem d_Mo_rule_18 : decode b_Mo_rule 18 = .ok (.invokestatic 88, 3) := by decide +kernel
theorem d_Mo_rule_21 : decode b_Mo_rule 21 = .ok (.ifCond .eq 15, 3) := by decide +kernel
theorem d_Mo_rule_24 : decode b_Mo_rule 24 = .ok (.iload_n 3, 1) := by decide +kernel
theorem d_Mo_rule_25 : decode b_Mo_rule 25 = .ok (.i2l, 1) := by decide +kernel
theorem d_Mo_rule_26 : decode b_Mo_rule 26 = .ok (.lconst 0, 1) := by decide +kernel
theorem d_Mo_rule_27 : decode b_Mo_rule 27 = .ok (.ldc2_w 100, 3) := by decide +kernel
theorem d_Mo_rule_30 : decode b_Mo_rule 30 = .ok (.invokestatic 88, 3) := by decide +kernel
theorem d_Mo_rule_33 : decode b_Mo_rule 33 = .ok (.ifCond .ne 6, 3) := by decide +kernel
theorem d_Mo_rule_36 : decode b_Mo_rule 36 = .ok (.bipush (-102), 2) := by decide +kernel
theorem d_Mo_rule_38 : decode b_Mo_rule 38 = .ok (.ireturn, 1) := by decide +kernel
theorem d_Mo_rule_39 : decode b_Mo_rule 39 = .ok (.aload_n 0, 1) := by decide +kernel
theorem d_Mo_rule_40 : decode b_Mo_rule 40 = .ok (.getfield 42, 3) := by decide +kernel
theorem d_Mo_rule_43 : decode b_Mo_rule 43 = .ok (.iload_n 1, 1) := by decide +kernel
theorem d_Mo_rule_44 : decode b_Mo_rule 44 = .ok (.iaload, 1) := by decide +kernel
theorem d_Mo_rule_45 : decode b_Mo_rule 45 = .ok (.iconst 1, 1) := by decide +kernel
theorem d_Mo_rule_46 : decode b_Mo_rule 46 = .ok (.if_icmp .le 6, 3) := by decide +kernel
theorem d_Mo_rule_49 : decode b_Mo_rule 49 = .ok (.bipush (-103), 2) := by decide +kernel
theorem d_Mo_rule_51 : decode b_Mo_rule 51 = .ok (.ireturn, 1) := by decide +kernel
theorem d_Mo_rule_52 : decode b_Mo_rule 52 = .ok (.aload_n 0, 1) := by decide +kernel
theorem d_Mo_rule_53 : decode b_Mo_rule 53 = .ok (.getfield 85, 3) := by decide +kernel
theorem d_Mo_rule_56 : decode b_Mo_rule 56 = .ok (.bipush 40, 2) := by decide +kernel
theorem d_Mo_rule_58 : decode b_Mo_rule 58 = .ok (.if_icmp .eq 14, 3) := by decide +kernel
theorem d_Mo_rule_61 : decode b_Mo_rule 61 = .ok (.aload_n 0, 1) := by decide +kernel
theorem d_Mo_rule_62 : decode b_Mo_rule 62 = .ok (.getfield 45, 3) := by decide +kernel
theorem d_Mo_rule_65 : decode b_Mo_rule 65 = .ok (.iload_n 1, 1) := by decide +kernel
theorem d_Mo_rule_66 : decode b_Mo_rule 66 = .ok (.iaload, 1) := by decide +kernel
theorem d_Mo_rule_67 : decode b_Mo_rule 67 = .ok (.bipush 8, 2) := by decide +kernel
theorem d_Mo_rule_69 : decode b_Mo_rule 69 = .ok (.if_icmp .ne 6, 3) := by decide +kernel
theorem d_Mo_rule_72 : decode b_Mo_rule 72 = .ok (.bipush (-104), 2) := by decide +kernel
theorem d_Mo_rule_74 : decode b_Mo_rule 74 = .ok (.ireturn, 1) := by decide +kernel
theorem d_Mo_rule_75 : decode b_Mo_rule 75 = .ok (.aload_n 0, 1) := by decide +kernel
theorem d_Mo_rule_76 : decode b_Mo_rule 76 = .ok (.getfield 7, 3) := by decide +kernel
theorem d_Mo_rule_79 : decode b_Mo_rule 79 = .ok (.aload_n 0, 1) := by decide +kernel
theorem d_Mo_rule_80 : decode b_Mo_rule 80 = .ok (.getfield 85, 3) := by decide +kernel
theorem d_Mo_rule_83 : decode b_Mo_rule 83 = .ok (.iload_n 1, 1) := by decide +kernel
theorem d_Mo_rule_84 : decode b_Mo_rule 84 = .ok (.iastore, 1) := by decide +kernel
theorem d_Mo_rule_85 : decode b_Mo_rule 85 = .ok (.aload_n 0, 1) := by decide +kernel
theorem d_Mo_rule_86 : decode b_Mo_rule 86 = .ok (.getfield 13, 3) := by decide +kernel
theorem d_Mo_rule_89 : decode b_Mo_rule 89 = .ok (.aload_n 0, 1) := by decide +kernel
theorem d_Mo_rule_90 : decode b_Mo_rule 90 = .ok (.getfield 85, 3) := by decide +kernel
theorem d_Mo_rule_93 : decode b_Mo_rule 93 = .ok (.bipush 100, 2) := by decide +kernel
theorem d_Mo_rule_95 : decode b_Mo_rule 95 = .ok (.iload_n 2, 1) := by decide +kernel
theorem d_Mo_rule_96 : decode b_Mo_rule 96 = .ok (.imul, 1) := by decide +kernel
theorem d_Mo_rule_97 : decode b_Mo_rule 97 = .ok (.iload_n 3, 1) := by decide +kernel
theorem d_Mo_rule_98 : decode b_Mo_rule 98 = .ok (.iadd, 1) := by decide +kernel
theorem d_Mo_rule_99 : decode b_Mo_rule 99 = .ok (.iastore, 1) := by decide +kernel
theorem d_Mo_rule_100 : decode b_Mo_rule 100 = .ok (.aload_n 0, 1) := by decide +kernel
theorem d_Mo_rule_101 : decode b_Mo_rule 101 = .ok (.getfield 45, 3) := by decide +kernel
theorem d_Mo_rule_104 : decode b_Mo_rule 104 = .ok (.iload_n 1, 1) := by decide +kernel
theorem d_Mo_rule_105 : decode b_Mo_rule 105 = .ok (.dup2, 1) := by decide +kernel
theorem d_Mo_rule_106 : decode b_Mo_rule 106 = .ok (.iaload, 1) := by decide +kernel
theorem d_Mo_rule_107 : decode b_Mo_rule 107 = .ok (.iconst 1, 1) := by decide +kernel
theorem d_Mo_rule_108 : decode b_Mo_rule 108 = .ok (.iadd, 1) := by decide +kernel
theorem d_Mo_rule_109 : decode b_Mo_rule 109 = .ok (.iastore, 1) := by decide +kernel
theorem d_Mo_rule_110 : decode b_Mo_rule 110 = .ok (.aload_n 0, 1) := by decide +kernel
theorem d_Mo_rule_111 : decode b_Mo_rule 111 = .ok (.getfield 42, 3) := by decide +kernel
theorem d_Mo_rule_114 : decode b_Mo_rule 114 = .ok (.iload_n 1, 1) := by decide +kernel
theorem d_Mo_rule_115 : decode b_Mo_rule 115 = .ok (.iconst 1, 1) := by decide +kernel
theorem d_Mo_rule_116 : decode b_Mo_rule 116 = .ok (.iastore, 1) := by decide +kernel
theorem d_Mo_rule_117 : decode b_Mo_rule 117 = .ok (.aload_n 0, 1) := by decide +kernel
theorem d_Mo_rule_118 : decode b_Mo_rule 118 = .ok (.dup, 1) := by decide +kernel
theorem d_Mo_rule_119 : decode b_Mo_rule 119 = .ok (.getfield 85, 3) := by decide +kernel
theorem d_Mo_rule_122 : decode b_Mo_rule 122 = .ok (.iconst 1, 1) := by decide +kernel
theorem d_Mo_rule_123 : decode b_Mo_rule 123 = .ok (.iadd, 1) := by decide +kernel
theorem d_Mo_rule_124 : decode b_Mo_rule 124 = .ok (.putfield 85, 3) := by decide +kernel
theorem d_Mo_rule_127 : decode b_Mo_rule 127 = .ok (.aload_n 0, 1) := by decide +kernel
theorem d_Mo_rule_128 : decode b_Mo_rule 128 = .ok (.getfield 85, 3) := by decide +kernel
theorem d_Mo_rule_131 : decode b_Mo_rule 131 = .ok (.iconst 1, 1) := by decide +kernel
theorem d_Mo_rule_132 : decode b_Mo_rule 132 = .ok (.isub, 1) := by decide +kernel
theorem d_Mo_rule_133 : decode b_Mo_rule 133 = .ok (.ireturn, 1) := by decide +kernel
theorem d_Mo_isNumber_0 : decode b_Mo_isNumber 0 = .ok (.iload_n 0, 1) := by decide +kernel
theorem d_Mo_isNumber_1 : decode b_Mo_isNumber 1 = .ok (.lookupswitch 86 #[(1, 43), (9, 52), (10, 77), (13, 43)], 43) := by decide +kernel
theorem d_Mo_isNumber_44 : decode b_Mo_isNumber 44 = .ok (.lload_n 1, 1) := by decide +kernel
theorem d_Mo_isNumber_45 : decode b_Mo_isNumber 45 = .ok (.lconst 0, 1) := by decide +kernel
theorem d_Mo_isNumber_46 : decode b_Mo_isNumber 46 = .ok (.ldc2_w 102, 3) := by decide +kernel
theorem d_Mo_isNumber_49 : decode b_Mo_isNumber 49 = .ok (.invokestatic 88, 3) := by decide +kernel
theorem d_Mo_isNumber_52 : decode b_Mo_isNumber 52 = .ok (.ireturn, 1) := by decide +kernel
theorem d_Mo_isNumber_53 : decode b_Mo_isNumber 53 = .ok (.lload_n 1, 1) := by decide +kernel
theorem d_Mo_isNumber_54 : decode b_Mo_isNumber 54 = .ok (.ldc2_w 104, 3) := by decide +kernel
theorem d_Mo_isNumber_57 : decode b_Mo_isNumber 57 = .ok (.ldc2_w 106, 3) := by decide +kernel
theorem d_Mo_isNumber_60 : decode b_Mo_isNumber 60 = .ok (.invokestatic 88, 3) := by decide +kernel
theorem d_Mo_isNumber_63 : decode b_Mo_isNumber 63 = .ok (.ifCond .eq 13, 3) := by decide +kernel
theorem d_Mo_isNumber_66 : decode b_Mo_isNumber 66 = .ok (.lload_n 1, 1) := by decide +kernel
theorem d_Mo_isNumber_67 : decode b_Mo_isNumber 67 = .ok (.lconst 0, 1) := by decide +kernel
theorem d_Mo_isNumber_68 : decode b_Mo_isNumber 68 = .ok (.lcmp, 1) := by decide +kernel
theorem d_Mo_isNumber_69 : decode b_Mo_isNumber 69 = .ok (.ifCond .eq 7, 3) := by decide +kernel
theorem d_Mo_isNumber_72 : decode b_Mo_isNumber 72 = .ok (.iconst 1, 1) := by decide +kernel
theorem d_Mo_isNumber_73 : decode b_Mo_isNumber 73 = .ok (.goto 4, 3) := by decide +kernel
theorem d_Mo_isNumber_76 : decode b_Mo_isNumber 76 = .ok (.iconst 0, 1) := by decide +kernel
theorem d_Mo_isNumber_77 : decode b_Mo_isNumber 77 = .ok (.ireturn, 1) := by decide +kernel
theorem d_Mo_isNumber_78 : decode b_Mo_isNumber 78 = .ok (.lload_n 1, 1) := by decide +kernel
theorem d_Mo_isNumber_79 : decode b_Mo_isNumber 79 = .ok (.lconst 0, 1) := by decide +kernel
theorem d_Mo_isNumber_80 : decode b_Mo_isNumber 80 = .ok (.ldc2_w 108, 3) := by decide +kernel
theorem d_Mo_isNumber_83 : decode b_Mo_isNumber 83 = .ok (.invokestatic 88, 3) := by decide +kernel
theorem d_Mo_isNumber_86 : decode b_Mo_isNumber 86 = .ok (.ireturn, 1) := by decide +kernel
theorem d_Mo_isNumber_87 : decode b_Mo_isNumber 87 = .ok (.iconst 1, 1) := by decide +kernel
theorem d_Mo_isNumber_88 : decode b_Mo_isNumber 88 = .ok (.ireturn, 1) := by decide +kernel
theorem d_Mo_code_0 : decode b_Mo_code 0 = .ok (.aload_n 0, 1) := by decide +kernel
theorem d_Mo_code_1 : decode b_Mo_code 1 = .ok (.iconst 0, 1) := by decide +kernel
theorem d_Mo_code_2 : decode b_Mo_code 2 = .ok (.putfield 82, 3) := by decide +kernel
theorem d_Mo_code_5 : decode b_Mo_code 5 = .ok (.aload_n 0, 1) := by decide +kernel
theorem d_Mo_code_6 : decode b_Mo_code 6 = .ok (.iload_n 1, 1) := by decide +kernel
theorem d_Mo_code_7 : decode b_Mo_code 7 = .ok (.invokevirtual 110, 3) := by decide +kernel
theorem d_Mo_code_10 : decode b_Mo_code 10 = .ok (.ifCond .ne 6, 3) := by decide +kernel
theorem d_Mo_code_13 : decode b_Mo_code 13 = .ok (.bipush (-101), 2) := by decide +kernel
theorem d_Mo_code_15 : decode b_Mo_code 15 = .ok (.ireturn, 1) := by decide +kernel
theorem d_Mo_code_16 : decode b_Mo_code 16 = .ok (.iload_n 2, 1) := by decide +kernel
theorem d_Mo_code_17 : decode b_Mo_code 17 = .ok (.i2l, 1) := by decide +kernel
theorem d_Mo_code_18 : decode b_Mo_code 18 = .ok (.lconst 0, 1) := by decide +kernel
theorem d_Mo_code_19 : decode b_Mo_code 19 = .ok (.ldc2_w 113, 3) := by decide +kernel
theorem d_Mo_code_22 : decode b_Mo_code 22 = .ok (.invokestatic 88, 3) := by decide +kernel
theorem d_Mo_code_25 : decode b_Mo_code 25 = .ok (.ifCond .eq 11, 3) := by decide +kernel
theorem d_Mo_code_28 : decode b_Mo_code 28 = .ok (.iload_n 2, 1) := by decide +kernel
theorem d_Mo_code_29 : decode b_Mo_code 29 = .ok (.lload_n 3, 1) := by decide +kernel
theorem d_Mo_code_30 : decode b_Mo_code 30 = .ok (.invokestatic 115, 3) := by decide +kernel
theorem d_Mo_code_33 : decode b_Mo_code 33 = .ok (.ifCond .ne 6, 3) := by decide +kernel
theorem d_Mo_code_36 : decode b_Mo_code 36 = .ok (.bipush (-102), 2) := by decide +kernel
theorem d_Mo_code_38 : decode b_Mo_code 38 = .ok (.ireturn, 1) := by decide +kernel
theorem d_Mo_code_39 : decode b_Mo_code 39 = .ok (.aload_n 0, 1) := by decide +kernel
theorem d_Mo_code_40 : decode b_Mo_code 40 = .ok (.getfield 42, 3) := by decide +kernel
theorem d_Mo_code_43 : decode b_Mo_code 43 = .ok (.aload_n 0, 1) := by decide +kernel
theorem d_Mo_code_44 : decode b_Mo_code 44 = .ok (.getfield 7, 3) := by decide +kernel
theorem d_Mo_code_47 : decode b_Mo_code 47 = .ok (.iload_n 1, 1) := by decide +kernel
theorem d_Mo_code_48 : decode b_Mo_code 48 = .ok (.iaload, 1) := by decide +kernel
theorem d_Mo_code_49 : decode b_Mo_code 49 = .ok (.iaload, 1) := by decide +kernel
theorem d_Mo_code_50 : decode b_Mo_code 50 = .ok (.iconst 1, 1) := by decide +kernel
theorem d_Mo_code_51 : decode b_Mo_code 51 = .ok (.if_icmp .eq 6, 3) := by decide +kernel
theorem d_Mo_code_54 : decode b_Mo_code 54 = .ok (.bipush (-103), 2) := by decide +kernel
theorem d_Mo_code_56 : decode b_Mo_code 56 = .ok (.ireturn, 1) := by decide +kernel
theorem d_Mo_code_57 : decode b_Mo_code 57 = .ok (.aload_n 0, 1) := by decide +kernel
theorem d_Mo_code_58 : decode b_Mo_code 58 = .ok (.getfield 16, 3) := by decide +kernel
theorem d_Mo_code_61 : decode b_Mo_code 61 = .ok (.iload_n 1, 1) := by decide +kernel
theorem d_Mo_code_62 : decode b_Mo_code 62 = .ok (.iaload, 1) := by decide +kernel
theorem d_Mo_code_63 : decode b_Mo_code 63 = .ok (.bipush 12, 2) := by decide +kernel
theorem d_Mo_code_65 : decode b_Mo_code 65 = .ok (.if_icmp .ne 6, 3) := by decide +kernel
theorem d_Mo_code_68 : decode b_Mo_code 68 = .ok (.bipush (-104), 2) := by decide +kernel
theorem d_Mo_code_70 : decode b_Mo_code 70 = .ok (.ireturn, 1) := by decide +kernel
theorem d_Mo_code_71 : decode b_Mo_code 71 = .ok (.aload_n 0, 1) := by decide +kernel
theorem d_Mo_code_72 : decode b_Mo_code 72 = .ok (.getfield 19, 3) := by decide +kernel
theorem d_Mo_code_75 : decode b_Mo_code 75 = .ok (.bipush 12, 2) := by decide +kernel
theorem d_Mo_code_77 : decode b_Mo_code 77 = .ok (.iload_n 1, 1) := by decide +kernel
theorem d_Mo_code_78 : decode b_Mo_code 78 = .ok (.imul, 1) := by decide +kernel
theorem d_Mo_code_79 : decode b_Mo_code 79 = .ok (.aload_n 0, 1) := by decide +kernel
theorem d_Mo_code_80 : decode b_Mo_code 80 = .ok (.getfield 16, 3) := by decide +kernel
theorem d_Mo_code_83 : decode b_Mo_code 83 = .ok (.iload_n 1, 1) := by decide +kernel
theorem d_Mo_code_84 : decode b_Mo_code 84 = .ok (.iaload, 1) := by decide +kernel
theorem d_Mo_code_85 : decode b_Mo_code 85 = .ok (.iadd, 1) := by decide +kernel
theorem d_Mo_code_86 : decode b_Mo_code 86 = .ok (.iload_n 2, 1) := by decide +kernel
theorem d_Mo_code_87 : decode b_Mo_code 87 = .ok (.iastore, 1) := by decide +kernel
theorem d_Mo_code_88 : decode b_Mo_code 88 = .ok (.aload_n 0, 1) := by decide +kernel
theorem d_Mo_code_89 : decode b_Mo_code 89 = .ok (.getfield 22, 3) := by decide +kernel
theorem d_Mo_code_92 : decode b_Mo_code 92 = .ok (.bipush 12, 2) := by decide +kernel
theorem d_Mo_code_94 : decode b_Mo_code 94 = .ok (.iload_n 1, 1) := by decide +kernel
theorem d_Mo_code_95 : decode b_Mo_code 95 = .ok (.imul, 1) := by decide +kernel
theorem d_Mo_code_96 : decode b_Mo_code 96 = .ok (.aload_n 0, 1) := by decide +kernel
theorem d_Mo_code_97 : decode b_Mo_code 97 = .ok (.getfield 16, 3) := by decide +kernel
theorem d_Mo_code_100 : decode b_Mo_code 100 = .ok (.iload_n 1, 1) := by decide +kernel
theorem d_Mo_code_101 : decode b_Mo_code 101 = .ok (.iaload, 1) := by decide +kernel
theorem d_Mo_code_102 : decode b_Mo_code 102 = .ok (.iadd, 1) := by decide +kernel
theorem d_Mo_code_103 : decode b_Mo_code 103 = .ok (.lload_n 3, 1) := by decide +kernel
theorem d_Mo_code_104 : decode b_Mo_code 104 = .ok (.lastore, 1) := by decide +kernel
theorem d_Mo_code_105 : decode b_Mo_code 105 = .ok (.aload_n 0, 1) := by decide +kernel
theorem d_Mo_code_106 : decode b_Mo_code 106 = .ok (.getfield 16, 3) := by decide +kernel
theorem d_Mo_code_109 : decode b_Mo_code 109 = .ok (.iload_n 1, 1) := by decide +kernel
theorem d_Mo_code_110 : decode b_Mo_code 110 = .ok (.dup2, 1) := by decide +kernel
theorem d_Mo_code_111 : decode b_Mo_code 111 = .ok (.iaload, 1) := by decide +kernel
theorem d_Mo_code_112 : decode b_Mo_code 112 = .ok (.iconst 1, 1) := by decide +kernel
theorem d_Mo_code_113 : decode b_Mo_code 113 = .ok (.iadd, 1) := by decide +kernel
theorem d_Mo_code_114 : decode b_Mo_code 114 = .ok (.iastore, 1) := by decide +kernel
theorem d_Mo_code_115 : decode b_Mo_code 115 = .ok (.aload_n 0, 1) := by decide +kernel
theorem d_Mo_code_116 : decode b_Mo_code 116 = .ok (.getfield 16, 3) := by decide +kernel
theorem d_Mo_code_119 : decode b_Mo_code 119 = .ok (.iload_n 1, 1) := by decide +kernel
theorem d_Mo_code_120 : decode b_Mo_code 120 = .ok (.iaload, 1) := by decide +kernel
theorem d_Mo_code_121 : decode b_Mo_code 121 = .ok (.ireturn, 1) := by decide +kernel
theorem d_Mo_fallback_0 : decode b_Mo_fallback 0 = .ok (.aload_n 0, 1) := by decide +kernel
theorem d_Mo_fallback_1 : decode b_Mo_fallback 1 = .ok (.iconst 0, 1) := by decide +kernel
theorem d_Mo_fallback_2 : decode b_Mo_fallback 2 = .ok (.putfield 82, 3) := by decide +kernel
theorem d_Mo_fallback_5 : decode b_Mo_fallback 5 = .ok (.aload_n 0, 1) := by decide +kernel
theorem d_Mo_fallback_6 : decode b_Mo_fallback 6 = .ok (.iload_n 1, 1) := by decide +kernel
theorem d_Mo_fallback_7 : decode b_Mo_fallback 7 = .ok (.invokevirtual 110, 3) := by decide +kernel
theorem d_Mo_fallback_10 : decode b_Mo_fallback 10 = .ok (.ifCond .ne 6, 3) := by decide +kernel
theorem d_Mo_fallback_13 : decode b_Mo_fallback 13 = .ok (.bipush (-101), 2) := by decide +kernel
theorem d_Mo_fallback_15 : decode b_Mo_fallback 15 = .ok (.ireturn, 1) := by decide +kernel
theorem d_Mo_fallback_16 : decode b_Mo_fallback 16 = .ok (.iload_n 2, 1) := by decide +kernel
theorem d_Mo_fallback_17 : decode b_Mo_fallback 17 = .ok (.i2l, 1) := by decide +kernel
theorem d_Mo_fallback_18 : decode b_Mo_fallback 18 = .ok (.lconst 0, 1) := by decide +kernel
theorem d_Mo_fallback_19 : decode b_Mo_fallback 19 = .ok (.ldc2_w 108, 3) := by decide +kernel
theorem d_Mo_fallback_22 : decode b_Mo_fallback 22 = .ok (.invokestatic 88, 3) := by decide +kernel
theorem d_Mo_fallback_25 : decode b_Mo_fallback 25 = .ok (.ifCond .ne 6, 3) := by decide +kernel
theorem d_Mo_fallback_28 : decode b_Mo_fallback 28 = .ok (.bipush (-102), 2) := by decide +kernel
theorem d_Mo_fallback_30 : decode b_Mo_fallback 30 = .ok (.ireturn, 1) := by decide +kernel
theorem d_Mo_fallback_31 : decode b_Mo_fallback 31 = .ok (.aload_n 0, 1) := by decide +kernel
theorem d_Mo_fallback_32 : decode b_Mo_fallback 32 = .ok (.getfield 42, 3) := by decide +kernel
theorem d_Mo_fallback_35 : decode b_Mo_fallback 35 = .ok (.aload_n 0, 1) := by decide +kernel
theorem d_Mo_fallback_36 : decode b_Mo_fallback 36 = .ok (.getfield 7, 3) := by decide +kernel
theorem d_Mo_fallback_39 : decode b_Mo_fallback 39 = .ok (.iload_n 1, 1) := by decide +kernel
theorem d_Mo_fallback_40 : decode b_Mo_fallback 40 = .ok (.iaload, 1) := by decide +kernel
theorem d_Mo_fallback_41 : decode b_Mo_fallback 41 = .ok (.iaload, 1) := by decide +kernel
theorem d_Mo_fallback_42 : decode b_Mo_fallback 42 = .ok (.iconst 1, 1) := by decide +kernel
theorem d_Mo_fallback_43 : decode b_Mo_fallback 43 = .ok (.if_icmp .eq 6, 3) := by decide +kernel
theorem d_Mo_fallback_46 : decode b_Mo_fallback 46 = .ok (.bipush (-103), 2) := by decide +kernel
theorem d_Mo_fallback_48 : decode b_Mo_fallback 48 = .ok (.ireturn, 1) := by decide +kernel
theorem d_Mo_fallback_49 : decode b_Mo_fallback 49 = .ok (.aload_n 0, 1) := by decide +kernel
theorem d_Mo_fallback_50 : decode b_Mo_fallback 50 = .ok (.getfield 29, 3) := by decide +kernel
theorem d_Mo_fallback_53 : decode b_Mo_fallback 53 = .ok (.iload_n 1, 1) := by decide +kernel
theorem d_Mo_fallback_54 : decode b_Mo_fallback 54 = .ok (.iconst 1, 1) := by decide +kernel
theorem d_Mo_fallback_55 : decode b_Mo_fallback 55 = .ok (.bastore, 1) := by decide +kernel
theorem d_Mo_fallback_56 : decode b_Mo_fallback 56 = .ok (.aload_n 0, 1) := by decide +kernel
theorem d_Mo_fallback_57 : decode b_Mo_fallback 57 = .ok (.getfield 33, 3) := by decide +kernel
theorem d_Mo_fallback_60 : decode b_Mo_fallback 60 = .ok (.iload_n 1, 1) := by decide +kernel
theorem d_Mo_fallback_61 : decode b_Mo_fallback 61 = .ok (.iload_n 2, 1) := by decide +kernel
theorem d_Mo_fallback_62 : decode b_Mo_fallback 62 = .ok (.iastore, 1) := by decide +kernel
theorem d_Mo_fallback_63 : decode b_Mo_fallback 63 = .ok (.aload_n 0, 1) := by decide +kernel
theorem d_Mo_fallback_64 : decode b_Mo_fallback 64 = .ok (.getfield 36, 3) := by decide +kernel
theorem d_Mo_fallback_67 : decode b_Mo_fallback 67 = .ok (.iload_n 1, 1) := by decide +kernel
theorem d_Mo_fallback_68 : decode b_Mo_fallback 68 = .ok (.lload_n 3, 1) := by decide +kernel
theorem d_Mo_fallback_69 : decode b_Mo_fallback 69 = .ok (.lastore, 1) := by decide +kernel
theorem d_Mo_fallback_70 : decode b_Mo_fallback 70 = .ok (.iconst 1, 1) := by decide +kernel
theorem d_Mo_fallback_71 : decode b_Mo_fallback 71 = .ok (.ireturn, 1) := by decide +kernel
theorem d_Mo_fact_0 : decode b_Mo_fact 0 = .ok (.aload_n 0, 1) := by decide +kernel
theorem d_Mo_fact_1 : decode b_Mo_fact 1 = .ok (.iconst 0, 1) := by decide +kernel
theorem d_Mo_fact_2 : decode b_Mo_fact 2 = .ok (.putfield 82, 3) := by decide +kernel
theorem d_Mo_fact_5 : decode b_Mo_fact 5 = .ok (.iload_n 1, 1) := by decide +kernel
theorem d_Mo_fact_6 : decode b_Mo_fact 6 = .ok (.i2l, 1) := by decide +kernel
theorem d_Mo_fact_7 : decode b_Mo_fact 7 = .ok (.lconst 0, 1) := by decide +kernel
theorem d_Mo_fact_8 : decode b_Mo_fact 8 = .ok (.ldc2_w 102, 3) := by decide +kernel
theorem d_Mo_fact_11 : decode b_Mo_fact 11 = .ok (.invokestatic 88, 3) := by decide +kernel
theorem d_Mo_fact_14 : decode b_Mo_fact 14 = .ok (.ifCond .ne 6, 3) := by decide +kernel
theorem d_Mo_fact_17 : decode b_Mo_fact 17 = .ok (.bipush (-102), 2) := by decide +kernel
theorem d_Mo_fact_19 : decode b_Mo_fact 19 = .ok (.ireturn, 1) := by decide +kernel
theorem d_Mo_fact_20 : decode b_Mo_fact 20 = .ok (.aload_n 0, 1) := by decide +kernel
theorem d_Mo_fact_21 : decode b_Mo_fact 21 = .ok (.getfield 39, 3) := by decide +kernel
theorem d_Mo_fact_24 : decode b_Mo_fact 24 = .ok (.iload_n 1, 1) := by decide +kernel
theorem d_Mo_fact_25 : decode b_Mo_fact 25 = .ok (.lload_n 2, 1) := by decide +kernel
theorem d_Mo_fact_26 : decode b_Mo_fact 26 = .ok (.lastore, 1) := by decide +kernel
theorem d_Mo_fact_27 : decode b_Mo_fact 27 = .ok (.iconst 1, 1) := by decide +kernel
theorem d_Mo_fact_28 : decode b_Mo_fact 28 = .ok (.ireturn, 1) := by decide +kernel
theorem d_Mo_push_0 : decode b_Mo_push 0 = .ok (.aload_n 0, 1) := by decide +kernel
theorem d_Mo_push_1 : decode b_Mo_push 1 = .ok (.getfield 119, 3) := by decide +kernel
theorem d_Mo_push_4 : decode b_Mo_push 4 = .ok (.bipush 8, 2) := by decide +kernel
theorem d_Mo_push_6 : decode b_Mo_push 6 = .ok (.if_icmp .ne 9, 3) := by decide +kernel
theorem d_Mo_push_9 : decode b_Mo_push 9 = .ok (.aload_n 0, 1) := by decide +kernel
theorem d_Mo_push_10 : decode b_Mo_push 10 = .ok (.iconst 3, 1) := by decide +kernel
theorem d_Mo_push_11 : decode b_Mo_push 11 = .ok (.putfield 122, 3) := by decide +kernel
theorem d_Mo_push_14 : decode b_Mo_push 14 = .ok (.return_, 1) := by decide +kernel
theorem d_Mo_push_15 : decode b_Mo_push 15 = .ok (.aload_n 0, 1) := by decide +kernel
theorem d_Mo_push_16 : decode b_Mo_push 16 = .ok (.getfield 69, 3) := by decide +kernel
theorem d_Mo_push_19 : decode b_Mo_push 19 = .ok (.aload_n 0, 1) := by decide +kernel
theorem d_Mo_push_20 : decode b_Mo_push 20 = .ok (.getfield 119, 3) := by decide +kernel
theorem d_Mo_push_23 : decode b_Mo_push 23 = .ok (.lload_n 1, 1) := by decide +kernel
theorem d_Mo_push_24 : decode b_Mo_push 24 = .ok (.lastore, 1) := by decide +kernel
theorem d_Mo_push_25 : decode b_Mo_push 25 = .ok (.aload_n 0, 1) := by decide +kernel
theorem d_Mo_push_26 : decode b_Mo_push 26 = .ok (.dup, 1) := by decide +kernel
theorem d_Mo_push_27 : decode b_Mo_push 27 = .ok (.getfield 119, 3) := by decide +kernel
theorem d_Mo_push_30 : decode b_Mo_push 30 = .ok (.iconst 1, 1) := by decide +kernel
theorem d_Mo_push_31 : decode b_Mo_push 31 = .ok (.iadd, 1) := by decide +kernel
theorem d_Mo_push_32 : decode b_Mo_push 32 = .ok (.putfield 119, 3) := by decide +kernel
theorem d_Mo_push_35 : decode b_Mo_push 35 = .ok (.return_, 1) := by decide +kernel
theorem d_Mo_two_0 : decode b_Mo_two 0 = .ok (.iload_n 0, 1) := by decide +kernel
theorem d_Mo_two_1 : decode b_Mo_two 1 = .ok (.tableswitch 63 2 6 #[35, 39, 43, 47, 51], 35) := by decide +kernel
theorem d_Mo_two_36 : decode b_Mo_two 36 = .ok (.lload_n 1, 1) := by decide +kernel
theorem d_Mo_two_37 : decode b_Mo_two 37 = .ok (.lload_n 3, 1) := by decide +kernel
theorem d_Mo_two_38 : decode b_Mo_two 38 = .ok (.ladd, 1) := by decide +kernel
theorem d_Mo_two_39 : decode b_Mo_two 39 = .ok (.lreturn, 1) := by decide +kernel
theorem d_Mo_two_40 : decode b_Mo_two 40 = .ok (.lload_n 1, 1) := by decide +kernel
theorem d_Mo_two_41 : decode b_Mo_two 41 = .ok (.lload_n 3, 1) := by decide +kernel
theorem d_Mo_two_42 : decode b_Mo_two 42 = .ok (.lsub, 1) := by decide +kernel
theorem d_Mo_two_43 : decode b_Mo_two 43 = .ok (.lreturn, 1) := by decide +kernel
theorem d_Mo_two_44 : decode b_Mo_two 44 = .ok (.lload_n 1, 1) := by decide +kernel
theorem d_Mo_two_45 : decode b_Mo_two 45 = .ok (.lload_n 3, 1) := by decide +kernel
theorem d_Mo_two_46 : decode b_Mo_two 46 = .ok (.lmul, 1) := by decide +kernel
theorem d_Mo_two_47 : decode b_Mo_two 47 = .ok (.lreturn, 1) := by decide +kernel
theorem d_Mo_two_48 : decode b_Mo_two 48 = .ok (.lload_n 1, 1) := by decide +kernel
theorem d_Mo_two_49 : decode b_Mo_two 49 = .ok (.lload_n 3, 1) := by decide +kernel
theorem d_Mo_two_50 : decode b_Mo_two 50 = .ok (.ldiv, 1) := by decide +kernel
theorem d_Mo_two_51 : decode b_Mo_two 51 = .ok (.lreturn, 1) := by decide +kernel
theorem d_Mo_two_52 : decode b_Mo_two 52 = .ok (.lload_n 1, 1) := by decide +kernel
theorem d_Mo_two_53 : decode b_Mo_two 53 = .ok (.lload_n 3, 1) := by decide +kernel
theorem d_Mo_two_54 : decode b_Mo_two 54 = .ok (.lcmp, 1) := by decide +kernel
theorem d_Mo_two_55 : decode b_Mo_two 55 = .ok (.ifCond .ge 7, 3) := by decide +kernel
theorem d_Mo_two_58 : decode b_Mo_two 58 = .ok (.lconst 1, 1) := by decide +kernel
theorem d_Mo_two_59 : decode b_Mo_two 59 = .ok (.goto 4, 3) := by decide +kernel
theorem d_Mo_two_62 : decode b_Mo_two 62 = .ok (.lconst 0, 1) := by decide +kernel
theorem d_Mo_two_63 : decode b_Mo_two 63 = .ok (.lreturn, 1) := by decide +kernel
theorem d_Mo_two_64 : decode b_Mo_two 64 = .ok (.lload_n 1, 1) := by decide +kernel
theorem d_Mo_two_65 : decode b_Mo_two 65 = .ok (.lload_n 3, 1) := by decide +kernel
theorem d_Mo_two_66 : decode b_Mo_two 66 = .ok (.lcmp, 1) := by decide +kernel
theorem d_Mo_two_67 : decode b_Mo_two 67 = .ok (.ifCond .ne 7, 3) := by decide +kernel
theorem d_Mo_two_70 : decode b_Mo_two 70 = .ok (.lconst 1, 1) := by decide +kernel
theorem d_Mo_two_71 : decode b_Mo_two 71 = .ok (.goto 4, 3) := by decide +kernel
theorem d_Mo_two_74 : decode b_Mo_two 74 = .ok (.lconst 0, 1) := by decide +kernel
theorem d_Mo_two_75 : decode b_Mo_two 75 = .ok (.lreturn, 1) := by decide +kernel
theorem d_Mo_needs_0 : decode b_Mo_needs 0 = .ok (.iload_n 0, 1) := by decide +kernel
theorem d_Mo_needs_1 : decode b_Mo_needs 1 = .ok (.iconst 1, 1) := by decide +kernel
theorem d_Mo_needs_2 : decode b_Mo_needs 2 = .ok (.if_icmp .le 13, 3) := by decide +kernel
theorem d_Mo_needs_5 : decode b_Mo_needs 5 = .ok (.iload_n 0, 1) := by decide +kernel
theorem d_Mo_needs_6 : decode b_Mo_needs 6 = .ok (.bipush 8, 2) := by decide +kernel
theorem d_Mo_needs_8 : decode b_Mo_needs 8 = .ok (.if_icmp .ge 7, 3) := by decide +kernel
theorem d_Mo_needs_11 : decode b_Mo_needs 11 = .ok (.iconst 2, 1) := by decide +kernel
theorem d_Mo_needs_12 : decode b_Mo_needs 12 = .ok (.goto 26, 3) := by decide +kernel
theorem d_Mo_needs_15 : decode b_Mo_needs 15 = .ok (.iload_n 0, 1) := by decide +kernel
theorem d_Mo_needs_16 : decode b_Mo_needs 16 = .ok (.bipush 7, 2) := by decide +kernel
theorem d_Mo_needs_18 : decode b_Mo_needs 18 = .ok (.if_icmp .le 9, 3) := by decide +kernel
theorem d_Mo_needs_21 : decode b_Mo_needs 21 = .ok (.iload_n 0, 1) := by decide +kernel
theorem d_Mo_needs_22 : decode b_Mo_needs 22 = .ok (.bipush 12, 2) := by decide +kernel
theorem d_Mo_needs_24 : decode b_Mo_needs 24 = .ok (.if_icmp .lt 9, 3) := by decide +kernel
theorem d_Mo_needs_27 : decode b_Mo_needs 27 = .ok (.iload_n 0, 1) := by decide +kernel
theorem d_Mo_needs_28 : decode b_Mo_needs 28 = .ok (.bipush 14, 2) := by decide +kernel
theorem d_Mo_needs_30 : decode b_Mo_needs 30 = .ok (.if_icmp .ne 7, 3) := by decide +kernel
theorem d_Mo_needs_33 : decode b_Mo_needs 33 = .ok (.iconst 1, 1) := by decide +kernel
theorem d_Mo_needs_34 : decode b_Mo_needs 34 = .ok (.goto 4, 3) := by decide +kernel
theorem d_Mo_needs_37 : decode b_Mo_needs 37 = .ok (.iconst 0, 1) := by decide +kernel
theorem d_Mo_needs_38 : decode b_Mo_needs 38 = .ok (.ireturn, 1) := by decide +kernel
theorem d_Mo_perform_0 : decode b_Mo_perform 0 = .ok (.aload_n 0, 1) := by decide +kernel
theorem d_Mo_perform_1 : decode b_Mo_perform 1 = .ok (.getfield 19, 3) := by decide +kernel
theorem d_Mo_perform_4 : decode b_Mo_perform 4 = .ok (.bipush 12, 2) := by decide +kernel
theorem d_Mo_perform_6 : decode b_Mo_perform 6 = .ok (.iload_n 1, 1) := by decide +kernel
theorem d_Mo_perform_7 : decode b_Mo_perform 7 = .ok (.imul, 1) := by decide +kernel
theorem d_Mo_perform_8 : decode b_Mo_perform 8 = .ok (.iload_n 2, 1) := by decide +kernel
theorem d_Mo_perform_9 : decode b_Mo_perform 9 = .ok (.iadd, 1) := by decide +kernel
theorem d_Mo_perform_10 : decode b_Mo_perform 10 = .ok (.iaload, 1) := by decide +kernel
theorem d_Mo_perform_11 : decode b_Mo_perform 11 = .ok (.istore_n 3, 1) := by decide +kernel
theorem d_Mo_perform_12 : decode b_Mo_perform 12 = .ok (.aload_n 0, 1) := by decide +kernel
theorem d_Mo_perform_13 : decode b_Mo_perform 13 = .ok (.getfield 22, 3) := by decide +kernel
theorem d_Mo_perform_16 : decode b_Mo_perform 16 = .ok (.bipush 12, 2) := by decide +kernel
theorem d_Mo_perform_18 : decode b_Mo_perform 18 = .ok (.iload_n 1, 1) := by decide +kernel
theorem d_Mo_perform_19 : decode b_Mo_perform 19 = .ok (.imul, 1) := by decide +kernel
theorem d_Mo_perform_20 : decode b_Mo_perform 20 = .ok (.iload_n 2, 1) := by decide +kernel
theorem d_Mo_perform_21 : decode b_Mo_perform 21 = .ok (.iadd, 1) := by decide +kernel
theorem d_Mo_perform_22 : decode b_Mo_perform 22 = .ok (.laload, 1) := by decide +kernel
theorem d_Mo_perform_23 : decode b_Mo_perform 23 = .ok (.lstore 4, 2) := by decide +kernel
theorem d_Mo_perform_25 : decode b_Mo_perform 25 = .ok (.aload_n 0, 1) := by decide +kernel
theorem d_Mo_perform_26 : decode b_Mo_perform 26 = .ok (.getfield 119, 3) := by decide +kernel
theorem d_Mo_perform_29 : decode b_Mo_perform 29 = .ok (.iload_n 3, 1) := by decide +kernel
theorem d_Mo_perform_30 : decode b_Mo_perform 30 = .ok (.invokestatic 125, 3) := by decide +kernel
theorem d_Mo_perform_33 : decode b_Mo_perform 33 = .ok (.if_icmp .ge 10, 3) := by decide +kernel
theorem d_Mo_perform_36 : decode b_Mo_perform 36 = .ok (.aload_n 0, 1) := by decide +kernel
theorem d_Mo_perform_37 : decode b_Mo_perform 37 = .ok (.iconst 3, 1) := by decide +kernel
theorem d_Mo_perform_38 : decode b_Mo_perform 38 = .ok (.putfield 122, 3) := by decide +kernel
theorem d_Mo_perform_41 : decode b_Mo_perform 41 = .ok (.iload_n 2, 1) := by decide +kernel
theorem d_Mo_perform_42 : decode b_Mo_perform 42 = .ok (.ireturn, 1) := by decide +kernel
theorem d_Mo_perform_43 : decode b_Mo_perform 43 = .ok (.aload_n 0, 1) := by decide +kernel
theorem d_Mo_perform_44 : decode b_Mo_perform 44 = .ok (.dup, 1) := by decide +kernel
theorem d_Mo_perform_45 : decode b_Mo_perform 45 = .ok (.getfield 119, 3) := by decide +kernel
theorem d_Mo_perform_48 : decode b_Mo_perform 48 = .ok (.iload_n 3, 1) := by decide +kernel
theorem d_Mo_perform_49 : decode b_Mo_perform 49 = .ok (.invokestatic 125, 3) := by decide +kernel
theorem d_Mo_perform_52 : decode b_Mo_perform 52 = .ok (.isub, 1) := by decide +kernel
theorem d_Mo_perform_53 : decode b_Mo_perform 53 = .ok (.putfield 119, 3) := by decide +kernel
theorem d_Mo_perform_56 : decode b_Mo_perform 56 = .ok (.aload_n 0, 1) := by decide +kernel
theorem d_Mo_perform_57 : decode b_Mo_perform 57 = .ok (.getfield 119, 3) := by decide +kernel
theorem d_Mo_perform_60 : decode b_Mo_perform 60 = .ok (.bipush 8, 2) := by decide +kernel
theorem d_Mo_perform_62 : decode b_Mo_perform 62 = .ok (.if_icmp .ge 15, 3) := by decide +kernel
theorem d_Mo_perform_65 : decode b_Mo_perform 65 = .ok (.aload_n 0, 1) := by decide +kernel
theorem d_Mo_perform_66 : decode b_Mo_perform 66 = .ok (.getfield 69, 3) := by decide +kernel
theorem d_Mo_perform_69 : decode b_Mo_perform 69 = .ok (.aload_n 0, 1) := by decide +kernel
theorem d_Mo_perform_70 : decode b_Mo_perform 70 = .ok (.getfield 119, 3) := by decide +kernel
theorem d_Mo_perform_73 : decode b_Mo_perform 73 = .ok (.laload, 1) := by decide +kernel
theorem d_Mo_perform_74 : decode b_Mo_perform 74 = .ok (.goto 4, 3) := by decide +kernel
theorem d_Mo_perform_77 : decode b_Mo_perform 77 = .ok (.lconst 0, 1) := by decide +kernel
theorem d_Mo_perform_78 : decode b_Mo_perform 78 = .ok (.lstore 6, 2) := by decide +kernel
theorem d_Mo_perform_80 : decode b_Mo_perform 80 = .ok (.aload_n 0, 1) := by decide +kernel
theorem d_Mo_perform_81 : decode b_Mo_perform 81 = .ok (.getfield 119, 3) := by decide +kernel
theorem d_Mo_perform_84 : decode b_Mo_perform 84 = .ok (.iconst 1, 1) := by decide +kernel
theorem d_Mo_perform_85 : decode b_Mo_perform 85 = .ok (.iadd, 1) := by decide +kernel
theorem d_Mo_perform_86 : decode b_Mo_perform 86 = .ok (.bipush 8, 2) := by decide +kernel
theorem d_Mo_perform_88 : decode b_Mo_perform 88 = .ok (.if_icmp .ge 17, 3) := by decide +kernel
theorem d_Mo_perform_91 : decode b_Mo_perform 91 = .ok (.aload_n 0, 1) := by decide +kernel
theorem d_Mo_perform_92 : decode b_Mo_perform 92 = .ok (.getfield 69, 3) := by decide +kernel
theorem d_Mo_perform_95 : decode b_Mo_perform 95 = .ok (.aload_n 0, 1) := by decide +kernel
theorem d_Mo_perform_96 : decode b_Mo_perform 96 = .ok (.getfield 119, 3) := by decide +kernel
theorem d_Mo_perform_99 : decode b_Mo_perform 99 = .ok (.iconst 1, 1) := by decide +kernel
theorem d_Mo_perform_100 : decode b_Mo_perform 100 = .ok (.iadd, 1) := by decide +kernel
theorem d_Mo_perform_101 : decode b_Mo_perform 101 = .ok (.laload, 1) := by decide +kernel
theorem d_Mo_perform_102 : decode b_Mo_perform 102 = .ok (.goto 4, 3) := by decide +kernel
theorem d_Mo_perform_105 : decode b_Mo_perform 105 = .ok (.lconst 0, 1) := by decide +kernel
theorem d_Mo_perform_106 : decode b_Mo_perform 106 = .ok (.lstore 8, 2) := by decide +kernel
theorem d_Mo_perform_108 : decode b_Mo_perform 108 = .ok (.iload_n 3, 1) := by decide +kernel
theorem d_Mo_perform_109 : decode b_Mo_perform 109 = .ok (.tableswitch 282 0 15 #[79, 88, 282, 282, 282, 103, 282, 282, 133, 152, 178, 200, 214, 225, 235, 279], 79) := by decide +kernel
theorem d_Mo_perform_188 : decode b_Mo_perform 188 = .ok (.aload_n 0, 1) := by decide +kernel
theorem d_Mo_perform_189 : decode b_Mo_perform 189 = .ok (.lload 4, 2) := by decide +kernel
theorem d_Mo_perform_191 : decode b_Mo_perform 191 = .ok (.invokevirtual 129, 3) := by decide +kernel
theorem d_Mo_perform_194 : decode b_Mo_perform 194 = .ok (.goto 209, 3) := by decide +kernel
theorem d_Mo_perform_197 : decode b_Mo_perform 197 = .ok (.aload_n 0, 1) := by decide +kernel
theorem d_Mo_perform_198 : decode b_Mo_perform 198 = .ok (.aload_n 0, 1) := by decide +kernel
theorem d_Mo_perform_199 : decode b_Mo_perform 199 = .ok (.getfield 39, 3) := by decide +kernel
theorem d_Mo_perform_202 : decode b_Mo_perform 202 = .ok (.lload 4, 2) := by decide +kernel
theorem d_Mo_perform_204 : decode b_Mo_perform 204 = .ok (.l2i, 1) := by decide +kernel
theorem d_Mo_perform_205 : decode b_Mo_perform 205 = .ok (.laload, 1) := by decide +kernel
theorem d_Mo_perform_206 : decode b_Mo_perform 206 = .ok (.invokevirtual 129, 3) := by decide +kernel
theorem d_Mo_perform_209 : decode b_Mo_perform 209 = .ok (.goto 194, 3) := by decide +kernel
theorem d_Mo_perform_212 : decode b_Mo_perform 212 = .ok (.lload 8, 2) := by decide +kernel
theorem d_Mo_perform_214 : decode b_Mo_perform 214 = .ok (.lconst 0, 1) := by decide +kernel
theorem d_Mo_perform_215 : decode b_Mo_perform 215 = .ok (.lcmp, 1) := by decide +kernel
theorem d_Mo_perform_216 : decode b_Mo_perform 216 = .ok (.ifCond .ne 11, 3) := by decide +kernel
theorem d_Mo_perform_219 : decode b_Mo_perform 219 = .ok (.aload_n 0, 1) := by decide +kernel
theorem d_Mo_perform_220 : decode b_Mo_perform 220 = .ok (.iconst 2, 1) := by decide +kernel
theorem d_Mo_perform_221 : decode b_Mo_perform 221 = .ok (.putfield 122, 3) := by decide +kernel
theorem d_Mo_perform_224 : decode b_Mo_perform 224 = .ok (.goto 179, 3) := by decide +kernel
theorem d_Mo_perform_227 : decode b_Mo_perform 227 = .ok (.aload_n 0, 1) := by decide +kernel
theorem d_Mo_perform_228 : decode b_Mo_perform 228 = .ok (.iload_n 3, 1) := by decide +kernel
theorem d_Mo_perform_229 : decode b_Mo_perform 229 = .ok (.lload 6, 2) := by decide +kernel
theorem d_Mo_perform_231 : decode b_Mo_perform 231 = .ok (.lload 8, 2) := by decide +kernel
theorem d_Mo_perform_233 : decode b_Mo_perform 233 = .ok (.invokestatic 133, 3) := by decide +kernel
theorem d_Mo_perform_236 : decode b_Mo_perform 236 = .ok (.invokevirtual 129, 3) := by decide +kernel
theorem d_Mo_perform_239 : decode b_Mo_perform 239 = .ok (.goto 164, 3) := by decide +kernel
theorem d_Mo_perform_242 : decode b_Mo_perform 242 = .ok (.aload_n 0, 1) := by decide +kernel
theorem d_Mo_perform_243 : decode b_Mo_perform 243 = .ok (.lload 6, 2) := by decide +kernel
theorem d_Mo_perform_245 : decode b_Mo_perform 245 = .ok (.lconst 0, 1) := by decide +kernel
theorem d_Mo_perform_246 : decode b_Mo_perform 246 = .ok (.lcmp, 1) := by decide +kernel
theorem d_Mo_perform_247 : decode b_Mo_perform 247 = .ok (.ifCond .ne 7, 3) := by decide +kernel
theorem d_Mo_perform_250 : decode b_Mo_perform 250 = .ok (.lconst 1, 1) := by decide +kernel
theorem d_Mo_perform_251 : decode b_Mo_perform 251 = .ok (.goto 4, 3) := by decide +kernel
theorem d_Mo_perform_254 : decode b_Mo_perform 254 = .ok (.lconst 0, 1) := by decide +kernel
theorem d_Mo_perform_255 : decode b_Mo_perform 255 = .ok (.invokevirtual 129, 3) := by decide +kernel
theorem d_Mo_perform_258 : decode b_Mo_perform 258 = .ok (.goto 145, 3) := by decide +kernel
theorem d_Mo_perform_261 : decode b_Mo_perform 261 = .ok (.lload 6, 2) := by decide +kernel
theorem d_Mo_perform_263 : decode b_Mo_perform 263 = .ok (.lconst 0, 1) := by decide +kernel
theorem d_Mo_perform_264 : decode b_Mo_perform 264 = .ok (.lcmp, 1) := by decide +kernel
theorem d_Mo_perform_265 : decode b_Mo_perform 265 = .ok (.ifCond .ne 138, 3) := by decide +kernel
theorem d_Mo_perform_268 : decode b_Mo_perform 268 = .ok (.iload_n 2, 1) := by decide +kernel
theorem d_Mo_perform_269 : decode b_Mo_perform 269 = .ok (.lload 4, 2) := by decide +kernel
theorem d_Mo_perform_271 : decode b_Mo_perform 271 = .ok (.l2i, 1) := by decide +kernel
theorem d_Mo_perform_272 : decode b_Mo_perform 272 = .ok (.iadd, 1) := by decide +kernel
theorem d_Mo_perform_273 : decode b_Mo_perform 273 = .ok (.istore 10, 2) := by decide +kernel
theorem d_Mo_perform_275 : decode b_Mo_perform 275 = .ok (.iload 10, 2) := by decide +kernel
theorem d_Mo_perform_277 : decode b_Mo_perform 277 = .ok (.ifCond .ge 7, 3) := by decide +kernel
theorem d_Mo_perform_280 : decode b_Mo_perform 280 = .ok (.iconst 0, 1) := by decide +kernel
theorem d_Mo_perform_281 : decode b_Mo_perform 281 = .ok (.goto 5, 3) := by decide +kernel
theorem d_Mo_perform_284 : decode b_Mo_perform 284 = .ok (.iload 10, 2) := by decide +kernel
theorem d_Mo_perform_286 : decode b_Mo_perform 286 = .ok (.ireturn, 1) := by decide +kernel
theorem d_Mo_perform_287 : decode b_Mo_perform 287 = .ok (.aload_n 0, 1) := by decide +kernel
theorem d_Mo_perform_288 : decode b_Mo_perform 288 = .ok (.getfield 72, 3) := by decide +kernel
theorem d_Mo_perform_291 : decode b_Mo_perform 291 = .ok (.lload 4, 2) := by decide +kernel
theorem d_Mo_perform_293 : decode b_Mo_perform 293 = .ok (.l2i, 1) := by decide +kernel
theorem d_Mo_perform_294 : decode b_Mo_perform 294 = .ok (.lload 6, 2) := by decide +kernel
theorem d_Mo_perform_296 : decode b_Mo_perform 296 = .ok (.lastore, 1) := by decide +kernel
theorem d_Mo_perform_297 : decode b_Mo_perform 297 = .ok (.aload_n 0, 1) := by decide +kernel
theorem d_Mo_perform_298 : decode b_Mo_perform 298 = .ok (.getfield 75, 3) := by decide +kernel
theorem d_Mo_perform_301 : decode b_Mo_perform 301 = .ok (.lload 4, 2) := by decide +kernel
theorem d_Mo_perform_303 : decode b_Mo_perform 303 = .ok (.l2i, 1) := by decide +kernel
theorem d_Mo_perform_304 : decode b_Mo_perform 304 = .ok (.iconst 1, 1) := by decide +kernel
theorem d_Mo_perform_305 : decode b_Mo_perform 305 = .ok (.bastore, 1) := by decide +kernel
theorem d_Mo_perform_306 : decode b_Mo_perform 306 = .ok (.goto 97, 3) := by decide +kernel
theorem d_Mo_perform_309 : decode b_Mo_perform 309 = .ok (.aload_n 0, 1) := by decide +kernel
theorem d_Mo_perform_310 : decode b_Mo_perform 310 = .ok (.dup, 1) := by decide +kernel
theorem d_Mo_perform_311 : decode b_Mo_perform 311 = .ok (.getfield 137, 3) := by decide +kernel
theorem d_Mo_perform_314 : decode b_Mo_perform 314 = .ok (.lload 6, 2) := by decide +kernel
theorem d_Mo_perform_316 : decode b_Mo_perform 316 = .ok (.ladd, 1) := by decide +kernel
theorem d_Mo_perform_317 : decode b_Mo_perform 317 = .ok (.putfield 137, 3) := by decide +kernel
theorem d_Mo_perform_320 : decode b_Mo_perform 320 = .ok (.goto 83, 3) := by decide +kernel
theorem d_Mo_perform_323 : decode b_Mo_perform 323 = .ok (.aload_n 0, 1) := by decide +kernel
theorem d_Mo_perform_324 : decode b_Mo_perform 324 = .ok (.aload_n 0, 1) := by decide +kernel
theorem d_Mo_perform_325 : decode b_Mo_perform 325 = .ok (.getfield 137, 3) := by decide +kernel
theorem d_Mo_perform_328 : decode b_Mo_perform 328 = .ok (.invokevirtual 129, 3) := by decide +kernel
theorem d_Mo_perform_331 : decode b_Mo_perform 331 = .ok (.goto 72, 3) := by decide +kernel
theorem d_Mo_perform_334 : decode b_Mo_perform 334 = .ok (.aload_n 0, 1) := by decide +kernel
theorem d_Mo_perform_335 : decode b_Mo_perform 335 = .ok (.lload 4, 2) := by decide +kernel
theorem d_Mo_perform_337 : decode b_Mo_perform 337 = .ok (.l2i, 1) := by decide +kernel
theorem d_Mo_perform_338 : decode b_Mo_perform 338 = .ok (.invokevirtual 141, 3) := by decide +kernel
theorem d_Mo_perform_341 : decode b_Mo_perform 341 = .ok (.goto 62, 3) := by decide +kernel
theorem d_Mo_perform_344 : decode b_Mo_perform 344 = .ok (.lload 6, 2) := by decide +kernel
theorem d_Mo_perform_346 : decode b_Mo_perform 346 = .ok (.lconst 0, 1) := by decide +kernel
theorem d_Mo_perform_347 : decode b_Mo_perform 347 = .ok (.aload_n 0, 1) := by decide +kernel
theorem d_Mo_perform_348 : decode b_Mo_perform 348 = .ok (.getfield 145, 3) := by decide +kernel
theorem d_Mo_perform_351 : decode b_Mo_perform 351 = .ok (.iconst 1, 1) := by decide +kernel
theorem d_Mo_perform_352 : decode b_Mo_perform 352 = .ok (.isub, 1) := by decide +kernel
theorem d_Mo_perform_353 : decode b_Mo_perform 353 = .ok (.i2l, 1) := by decide +kernel
theorem d_Mo_perform_354 : decode b_Mo_perform 354 = .ok (.invokestatic 88, 3) := by decide +kernel
theorem d_Mo_perform_357 : decode b_Mo_perform 357 = .ok (.ifCond .eq 23, 3) := by decide +kernel
theorem d_Mo_perform_360 : decode b_Mo_perform 360 = .ok (.aload_n 0, 1) := by decide +kernel
theorem d_Mo_perform_361 : decode b_Mo_perform 361 = .ok (.aload_n 0, 1) := by decide +kernel
theorem d_Mo_perform_362 : decode b_Mo_perform 362 = .ok (.getfield 39, 3) := by decide +kernel
theorem d_Mo_perform_365 : decode b_Mo_perform 365 = .ok (.aload_n 0, 1) := by decide +kernel
theorem d_Mo_perform_366 : decode b_Mo_perform 366 = .ok (.getfield 54, 3) := by decide +kernel
theorem d_Mo_perform_369 : decode b_Mo_perform 369 = .ok (.lload 6, 2) := by decide +kernel
theorem d_Mo_perform_371 : decode b_Mo_perform 371 = .ok (.l2i, 1) := by decide +kernel
theorem d_Mo_perform_372 : decode b_Mo_perform 372 = .ok (.iaload, 1) := by decide +kernel
theorem d_Mo_perform_373 : decode b_Mo_perform 373 = .ok (.laload, 1) := by decide +kernel
theorem d_Mo_perform_374 : decode b_Mo_perform 374 = .ok (.invokevirtual 129, 3) := by decide +kernel
theorem d_Mo_perform_377 : decode b_Mo_perform 377 = .ok (.goto 26, 3) := by decide +kernel
theorem d_Mo_perform_380 : decode b_Mo_perform 380 = .ok (.aload_n 0, 1) := by decide +kernel
theorem d_Mo_perform_381 : decode b_Mo_perform 381 = .ok (.iconst 4, 1) := by decide +kernel
theorem d_Mo_perform_382 : decode b_Mo_perform 382 = .ok (.putfield 122, 3) := by decide +kernel
theorem d_Mo_perform_385 : decode b_Mo_perform 385 = .ok (.goto 18, 3) := by decide +kernel
theorem d_Mo_perform_388 : decode b_Mo_perform 388 = .ok (.bipush 12, 2) := by decide +kernel
theorem d_Mo_perform_390 : decode b_Mo_perform 390 = .ok (.ireturn, 1) := by decide +kernel
theorem d_Mo_perform_391 : decode b_Mo_perform 391 = .ok (.aload_n 0, 1) := by decide +kernel
theorem d_Mo_perform_392 : decode b_Mo_perform 392 = .ok (.iload_n 3, 1) := by decide +kernel
theorem d_Mo_perform_393 : decode b_Mo_perform 393 = .ok (.lload 6, 2) := by decide +kernel
theorem d_Mo_perform_395 : decode b_Mo_perform 395 = .ok (.lload 8, 2) := by decide +kernel
theorem d_Mo_perform_397 : decode b_Mo_perform 397 = .ok (.invokestatic 133, 3) := by decide +kernel
theorem d_Mo_perform_400 : decode b_Mo_perform 400 = .ok (.invokevirtual 129, 3) := by decide +kernel
theorem d_Mo_perform_403 : decode b_Mo_perform 403 = .ok (.iload_n 2, 1) := by decide +kernel
theorem d_Mo_perform_404 : decode b_Mo_perform 404 = .ok (.iconst 1, 1) := by decide +kernel
theorem d_Mo_perform_405 : decode b_Mo_perform 405 = .ok (.iadd, 1) := by decide +kernel
theorem d_Mo_perform_406 : decode b_Mo_perform 406 = .ok (.ireturn, 1) := by decide +kernel
theorem d_Mo_keepHandle_0 : decode b_Mo_keepHandle 0 = .ok (.aload_n 0, 1) := by decide +kernel
theorem d_Mo_keepHandle_1 : decode b_Mo_keepHandle 1 = .ok (.getfield 119, 3) := by decide +kernel
theorem d_Mo_keepHandle_4 : decode b_Mo_keepHandle 4 = .ok (.bipush 8, 2) := by decide +kernel
theorem d_Mo_keepHandle_6 : decode b_Mo_keepHandle 6 = .ok (.if_icmp .ne 11, 3) := by decide +kernel
theorem d_Mo_keepHandle_9 : decode b_Mo_keepHandle 9 = .ok (.aload_n 0, 1) := by decide +kernel
theorem d_Mo_keepHandle_10 : decode b_Mo_keepHandle 10 = .ok (.iconst 3, 1) := by decide +kernel
theorem d_Mo_keepHandle_11 : decode b_Mo_keepHandle 11 = .ok (.putfield 122, 3) := by decide +kernel
theorem d_Mo_keepHandle_14 : decode b_Mo_keepHandle 14 = .ok (.goto 49, 3) := by decide +kernel
theorem d_Mo_keepHandle_17 : decode b_Mo_keepHandle 17 = .ok (.aload_n 0, 1) := by decide +kernel
theorem d_Mo_keepHandle_18 : decode b_Mo_keepHandle 18 = .ok (.getfield 145, 3) := by decide +kernel
theorem d_Mo_keepHandle_21 : decode b_Mo_keepHandle 21 = .ok (.bipush 16, 2) := by decide +kernel
theorem d_Mo_keepHandle_23 : decode b_Mo_keepHandle 23 = .ok (.if_icmp .ne 11, 3) := by decide +kernel
theorem d_Mo_keepHandle_26 : decode b_Mo_keepHandle 26 = .ok (.aload_n 0, 1) := by decide +kernel
theorem d_Mo_keepHandle_27 : decode b_Mo_keepHandle 27 = .ok (.iconst 4, 1) := by decide +kernel
theorem d_Mo_keepHandle_28 : decode b_Mo_keepHandle 28 = .ok (.putfield 122, 3) := by decide +kernel
theorem d_Mo_keepHandle_31 : decode b_Mo_keepHandle 31 = .ok (.goto 32, 3) := by decide +kernel
theorem d_Mo_keepHandle_34 : decode b_Mo_keepHandle 34 = .ok (.aload_n 0, 1) := by decide +kernel
theorem d_Mo_keepHandle_35 : decode b_Mo_keepHandle 35 = .ok (.getfield 54, 3) := by decide +kernel
theorem d_Mo_keepHandle_38 : decode b_Mo_keepHandle 38 = .ok (.aload_n 0, 1) := by decide +kernel
theorem d_Mo_keepHandle_39 : decode b_Mo_keepHandle 39 = .ok (.getfield 145, 3) := by decide +kernel
theorem d_Mo_keepHandle_42 : decode b_Mo_keepHandle 42 = .ok (.iload_n 1, 1) := by decide +kernel
theorem d_Mo_keepHandle_43 : decode b_Mo_keepHandle 43 = .ok (.iastore, 1) := by decide +kernel
theorem d_Mo_keepHandle_44 : decode b_Mo_keepHandle 44 = .ok (.aload_n 0, 1) := by decide +kernel
theorem d_Mo_keepHandle_45 : decode b_Mo_keepHandle 45 = .ok (.aload_n 0, 1) := by decide +kernel
theorem d_Mo_keepHandle_46 : decode b_Mo_keepHandle 46 = .ok (.getfield 145, 3) := by decide +kernel
theorem d_Mo_keepHandle_49 : decode b_Mo_keepHandle 49 = .ok (.i2l, 1) := by decide +kernel
theorem d_Mo_keepHandle_50 : decode b_Mo_keepHandle 50 = .ok (.invokevirtual 129, 3) := by decide +kernel
theorem d_Mo_keepHandle_53 : decode b_Mo_keepHandle 53 = .ok (.aload_n 0, 1) := by decide +kernel
theorem d_Mo_keepHandle_54 : decode b_Mo_keepHandle 54 = .ok (.dup, 1) := by decide +kernel
