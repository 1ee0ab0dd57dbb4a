theorem d_LAW_law_0 : decode code 0 = .ok (.new 7, 3) := by decide +kernel
theorem d_LAW_law_3 : decode code 3 = .ok (.dup, 1) := by decide +kernel
theorem d_LAW_law_4 : decode code 4 = .ok (.aload_n 0, 1) := by decide +kernel
theorem d_LAW_law_5 : decode code 5 = .ok (.iconst 0, 1) := by decide +kernel
theorem d_LAW_law_6 : decode code 6 = .ok (.invokestatic 9, 3) := by decide +kernel
theorem d_LAW_law_9 : decode code 9 = .ok (.aload_n 0, 1) := by decide +kernel
theorem d_LAW_law_10 : decode code 10 = .ok (.iconst 1, 1) := by decide +kernel
theorem d_LAW_law_11 : decode code 11 = .ok (.invokestatic 9, 3) := by decide +kernel
theorem d_LAW_law_14 : decode code 14 = .ok (.aload_n 0, 1) := by decide +kernel
theorem d_LAW_law_15 : decode code 15 = .ok (.iconst 2, 1) := by decide +kernel
theorem d_LAW_law_16 : decode code 16 = .ok (.invokestatic 9, 3) := by decide +kernel
theorem d_LAW_law_19 : decode code 19 = .ok (.aload_n 0, 1) := by decide +kernel
theorem d_LAW_law_20 : decode code 20 = .ok (.iconst 3, 1) := by decide +kernel
theorem d_LAW_law_21 : decode code 21 = .ok (.invokestatic 9, 3) := by decide +kernel
theorem d_LAW_law_24 : decode code 24 = .ok (.invokespecial 15, 3) := by decide +kernel
theorem d_LAW_law_27 : decode code 27 = .ok (.astore_n 1, 1) := by decide +kernel
theorem d_LAW_law_28 : decode code 28 = .ok (.new 18, 3) := by decide +kernel
theorem d_LAW_law_31 : decode code 31 = .ok (.dup, 1) := by decide +kernel
theorem d_LAW_law_32 : decode code 32 = .ok (.aload_n 0, 1) := by decide +kernel
theorem d_LAW_law_33 : decode code 33 = .ok (.iconst 0, 1) := by decide +kernel
theorem d_LAW_law_34 : decode code 34 = .ok (.invokestatic 9, 3) := by decide +kernel
theorem d_LAW_law_37 : decode code 37 = .ok (.aload_n 0, 1) := by decide +kernel
theorem d_LAW_law_38 : decode code 38 = .ok (.iconst 1, 1) := by decide +kernel
theorem d_LAW_law_39 : decode code 39 = .ok (.invokestatic 9, 3) := by decide +kernel
theorem d_LAW_law_42 : decode code 42 = .ok (.aload_n 0, 1) := by decide +kernel
theorem d_LAW_law_43 : decode code 43 = .ok (.iconst 2, 1) := by decide +kernel
theorem d_LAW_law_44 : decode code 44 = .ok (.invokestatic 9, 3) := by decide +kernel
theorem d_LAW_law_47 : decode code 47 = .ok (.aload_n 0, 1) := by decide +kernel
theorem d_LAW_law_48 : decode code 48 = .ok (.iconst 3, 1) := by decide +kernel
theorem d_LAW_law_49 : decode code 49 = .ok (.invokestatic 9, 3) := by decide +kernel
theorem d_LAW_law_52 : decode code 52 = .ok (.invokespecial 20, 3) := by decide +kernel
theorem d_LAW_law_55 : decode code 55 = .ok (.astore_n 2, 1) := by decide +kernel
theorem d_LAW_law_56 : decode code 56 = .ok (.iconst 4, 1) := by decide +kernel
theorem d_LAW_law_57 : decode code 57 = .ok (.istore_n 3, 1) := by decide +kernel
theorem d_LAW_law_58 : decode code 58 = .ok (.iload_n 3, 1) := by decide +kernel
theorem d_LAW_law_59 : decode code 59 = .ok (.aload_n 0, 1) := by decide +kernel
theorem d_LAW_law_60 : decode code 60 = .ok (.arraylength, 1) := by decide +kernel
theorem d_LAW_law_61 : decode code 61 = .ok (.iconst 4, 1) := by decide +kernel
theorem d_LAW_law_62 : decode code 62 = .ok (.isub, 1) := by decide +kernel
theorem d_LAW_law_63 : decode code 63 = .ok (.if_icmp .gt (560), 3) := by decide +kernel
theorem d_LAW_law_66 : decode code 66 = .ok (.aload_n 0, 1) := by decide +kernel
theorem d_LAW_law_67 : decode code 67 = .ok (.iload_n 3, 1) := by decide +kernel
theorem d_LAW_law_68 : decode code 68 = .ok (.iaload, 1) := by decide +kernel
theorem d_LAW_law_69 : decode code 69 = .ok (.bipush (31), 2) := by decide +kernel
theorem d_LAW_law_71 : decode code 71 = .ok (.iand, 1) := by decide +kernel
theorem d_LAW_law_72 : decode code 72 = .ok (.tableswitch (545) 0 18 #[92, 155, 178, 227, 270, 293, 316, 329, 362, 385, 408, 421, 434, 447, 460, 473, 486, 499, 512], 92) := by decide +kernel
theorem d_LAW_law_164 : decode code 164 = .ok (.aload_n 1, 1) := by decide +kernel
theorem d_LAW_law_165 : decode code 165 = .ok (.aload_n 0, 1) := by decide +kernel
theorem d_LAW_law_166 : decode code 166 = .ok (.iload_n 3, 1) := by decide +kernel
theorem d_LAW_law_167 : decode code 167 = .ok (.iconst 1, 1) := by decide +kernel
theorem d_LAW_law_168 : decode code 168 = .ok (.iadd, 1) := by decide +kernel
theorem d_LAW_law_169 : decode code 169 = .ok (.iaload, 1) := by decide +kernel
theorem d_LAW_law_170 : decode code 170 = .ok (.aload_n 0, 1) := by decide +kernel
theorem d_LAW_law_171 : decode code 171 = .ok (.iload_n 3, 1) := by decide +kernel
theorem d_LAW_law_172 : decode code 172 = .ok (.iconst 2, 1) := by decide +kernel
theorem d_LAW_law_173 : decode code 173 = .ok (.iadd, 1) := by decide +kernel
theorem d_LAW_law_174 : decode code 174 = .ok (.iaload, 1) := by decide +kernel
theorem d_LAW_law_175 : decode code 175 = .ok (.i2l, 1) := by decide +kernel
theorem d_LAW_law_176 : decode code 176 = .ok (.bipush (32), 2) := by decide +kernel
theorem d_LAW_law_178 : decode code 178 = .ok (.lshl, 1) := by decide +kernel
theorem d_LAW_law_179 : decode code 179 = .ok (.aload_n 0, 1) := by decide +kernel
theorem d_LAW_law_180 : decode code 180 = .ok (.iload_n 3, 1) := by decide +kernel
theorem d_LAW_law_181 : decode code 181 = .ok (.iconst 3, 1) := by decide +kernel
theorem d_LAW_law_182 : decode code 182 = .ok (.iadd, 1) := by decide +kernel
theorem d_LAW_law_183 : decode code 183 = .ok (.iaload, 1) := by decide +kernel
theorem d_LAW_law_184 : decode code 184 = .ok (.i2l, 1) := by decide +kernel
theorem d_LAW_law_185 : decode code 185 = .ok (.ldc2_w 21, 3) := by decide +kernel
theorem d_LAW_law_188 : decode code 188 = .ok (.land, 1) := by decide +kernel
theorem d_LAW_law_189 : decode code 189 = .ok (.lor, 1) := by decide +kernel
theorem d_LAW_law_190 : decode code 190 = .ok (.invokevirtual 23, 3) := by decide +kernel
theorem d_LAW_law_193 : decode code 193 = .ok (.aload_n 2, 1) := by decide +kernel
theorem d_LAW_law_194 : decode code 194 = .ok (.aload_n 0, 1) := by decide +kernel
theorem d_LAW_law_195 : decode code 195 = .ok (.iload_n 3, 1) := by decide +kernel
theorem d_LAW_law_196 : decode code 196 = .ok (.iconst 1, 1) := by decide +kernel
theorem d_LAW_law_197 : decode code 197 = .ok (.iadd, 1) := by decide +kernel
theorem d_LAW_law_198 : decode code 198 = .ok (.iaload, 1) := by decide +kernel
theorem d_LAW_law_199 : decode code 199 = .ok (.aload_n 0, 1) := by decide +kernel
theorem d_LAW_law_200 : decode code 200 = .ok (.iload_n 3, 1) := by decide +kernel
theorem d_LAW_law_201 : decode code 201 = .ok (.iconst 2, 1) := by decide +kernel
theorem d_LAW_law_202 : decode code 202 = .ok (.iadd, 1) := by decide +kernel
theorem d_LAW_law_203 : decode code 203 = .ok (.iaload, 1) := by decide +kernel
theorem d_LAW_law_204 : decode code 204 = .ok (.i2l, 1) := by decide +kernel
theorem d_LAW_law_205 : decode code 205 = .ok (.bipush (32), 2) := by decide +kernel
theorem d_LAW_law_207 : decode code 207 = .ok (.lshl, 1) := by decide +kernel
theorem d_LAW_law_208 : decode code 208 = .ok (.aload_n 0, 1) := by decide +kernel
theorem d_LAW_law_209 : decode code 209 = .ok (.iload_n 3, 1) := by decide +kernel
theorem d_LAW_law_210 : decode code 210 = .ok (.iconst 3, 1) := by decide +kernel
theorem d_LAW_law_211 : decode code 211 = .ok (.iadd, 1) := by decide +kernel
theorem d_LAW_law_212 : decode code 212 = .ok (.iaload, 1) := by decide +kernel
theorem d_LAW_law_213 : decode code 213 = .ok (.i2l, 1) := by decide +kernel
theorem d_LAW_law_214 : decode code 214 = .ok (.ldc2_w 21, 3) := by decide +kernel
theorem d_LAW_law_217 : decode code 217 = .ok (.land, 1) := by decide +kernel
theorem d_LAW_law_218 : decode code 218 = .ok (.lor, 1) := by decide +kernel
theorem d_LAW_law_219 : decode code 219 = .ok (.invokevirtual 27, 3) := by decide +kernel
theorem d_LAW_law_222 : decode code 222 = .ok (.if_icmp .eq (395), 3) := by decide +kernel

