theorem eX11_order_0 : zd 1 cX11_order 0 1 (.iconst 0) := ⟨by decide +kernel, rfl⟩
theorem eX11_order_1 : zd 1 cX11_order 1 2 (.istore_n 2) := ⟨by decide +kernel, rfl⟩
theorem eX11_order_2 : zd 1 cX11_order 2 3 (.iconst 0) := ⟨by decide +kernel, rfl⟩
theorem eX11_order_3 : zd 1 cX11_order 3 4 (.istore_n 3) := ⟨by decide +kernel, rfl⟩
theorem eX11_order_4 : zd 1 cX11_order 4 5 (.iload_n 3) := ⟨by decide +kernel, rfl⟩
theorem eX11_order_5 : zd 2 cX11_order 5 7 (.bipush 6) := ⟨by decide +kernel, rfl⟩
theorem eX11_order_7 : zdi cX11_order 7 10 34 (.if_icmp .ge) := ⟨27, by decide +kernel, rfl, by decide⟩
theorem eX11_order_10 : zd 1 cX11_order 10 11 (.iload_n 2) := ⟨by decide +kernel, rfl⟩
theorem eX11_order_11 : zd 1 cX11_order 11 12 (.aload_n 0) := ⟨by decide +kernel, rfl⟩
theorem eX11_order_12 : zd 1 cX11_order 12 13 (.iload_n 3) := ⟨by decide +kernel, rfl⟩
theorem eX11_order_13 : zd 3 cX11_order 13 16 (.invokevirtual 243) := ⟨by decide +kernel, rfl⟩
theorem eX11_order_16 : zdi cX11_order 16 19 25 (.ifCond .eq) := ⟨9, by decide +kernel, rfl, by decide⟩
theorem eX11_order_19 : zd 1 cX11_order 19 20 (.iconst 1) := ⟨by decide +kernel, rfl⟩
theorem eX11_order_20 : zd 1 cX11_order 20 21 (.iload_n 3) := ⟨by decide +kernel, rfl⟩
theorem eX11_order_21 : zd 1 cX11_order 21 22 (.ishl) := ⟨by decide +kernel, rfl⟩
theorem eX11_order_22 : zdi cX11_order 22 25 26 (.goto) := ⟨4, by decide +kernel, rfl, by decide⟩
theorem eX11_order_25 : zd 1 cX11_order 25 26 (.iconst 0) := ⟨by decide +kernel, rfl⟩
theorem eX11_order_26 : zd 1 cX11_order 26 27 (.ior) := ⟨by decide +kernel, rfl⟩
theorem eX11_order_27 : zd 1 cX11_order 27 28 (.istore_n 2) := ⟨by decide +kernel, rfl⟩
theorem eX11_order_28 : zd 3 cX11_order 28 31 (.iinc 3 1) := ⟨by decide +kernel, rfl⟩
theorem eX11_order_31 : zdi cX11_order 31 34 4 (.goto) := ⟨(-27), by decide +kernel, rfl, by decide⟩
theorem eX11_order_34 : zd 1 cX11_order 34 35 (.iload_n 2) := ⟨by decide +kernel, rfl⟩
theorem eX11_order_35 : zdi cX11_order 35 38 42 (.ifCond .ne) := ⟨7, by decide +kernel, rfl, by decide⟩
theorem eX11_order_38 : zd 3 cX11_order 38 41 (.ldc_w 326) := ⟨by decide +kernel, rfl⟩
theorem eX11_order_41 : zd 1 cX11_order 41 42 (.ireturn) := ⟨by decide +kernel, rfl⟩
theorem eX11_order_42 : zd 1 cX11_order 42 43 (.aload_n 0) := ⟨by decide +kernel, rfl⟩
theorem eX11_order_43 : zd 3 cX11_order 43 46 (.getfield 60) := ⟨by decide +kernel, rfl⟩
theorem eX11_order_46 : zd 1 cX11_order 46 47 (.iconst 0) := ⟨by decide +kernel, rfl⟩
theorem eX11_order_47 : zd 1 cX11_order 47 48 (.lconst 0) := ⟨by decide +kernel, rfl⟩
theorem eX11_order_48 : zd 1 cX11_order 48 49 (.lastore) := ⟨by decide +kernel, rfl⟩
theorem eX11_order_49 : zd 1 cX11_order 49 50 (.iconst 1) := ⟨by decide +kernel, rfl⟩
theorem eX11_order_50 : zd 1 cX11_order 50 51 (.istore_n 3) := ⟨by decide +kernel, rfl⟩
theorem eX11_order_51 : zd 1 cX11_order 51 52 (.iload_n 3) := ⟨by decide +kernel, rfl⟩
theorem eX11_order_52 : zd 1 cX11_order 52 53 (.iload_n 2) := ⟨by decide +kernel, rfl⟩
theorem eX11_order_53 : zdi cX11_order 53 56 169 (.if_icmp .gt) := ⟨116, by decide +kernel, rfl, by decide⟩
theorem eX11_order_56 : zd 1 cX11_order 56 57 (.iload_n 3) := ⟨by decide +kernel, rfl⟩
theorem eX11_order_57 : zd 1 cX11_order 57 58 (.iload_n 2) := ⟨by decide +kernel, rfl⟩
theorem eX11_order_58 : zd 1 cX11_order 58 59 (.iconst (-1)) := ⟨by decide +kernel, rfl⟩
theorem eX11_order_59 : zd 1 cX11_order 59 60 (.ixor) := ⟨by decide +kernel, rfl⟩
theorem eX11_order_60 : zd 1 cX11_order 60 61 (.iand) := ⟨by decide +kernel, rfl⟩
theorem eX11_order_61 : zdi cX11_order 61 64 163 (.ifCond .ne) := ⟨102, by decide +kernel, rfl, by decide⟩
theorem eX11_order_64 : zd 3 cX11_order 64 67 (.ldc2_w 397) := ⟨by decide +kernel, rfl⟩
theorem eX11_order_67 : zd 2 cX11_order 67 69 (.lstore 4) := ⟨by decide +kernel, rfl⟩
theorem eX11_order_69 : zd 1 cX11_order 69 70 (.iconst 0) := ⟨by decide +kernel, rfl⟩
theorem eX11_order_70 : zd 2 cX11_order 70 72 (.istore 6) := ⟨by decide +kernel, rfl⟩
theorem eX11_order_72 : zd 2 cX11_order 72 74 (.iload 6) := ⟨by decide +kernel, rfl⟩
theorem eX11_order_74 : zd 2 cX11_order 74 76 (.bipush 6) := ⟨by decide +kernel, rfl⟩
theorem eX11_order_76 : zdi cX11_order 76 79 147 (.if_icmp .ge) := ⟨71, by decide +kernel, rfl, by decide⟩
theorem eX11_order_79 : zd 1 cX11_order 79 80 (.iload_n 3) := ⟨by decide +kernel, rfl⟩
theorem eX11_order_80 : zd 2 cX11_order 80 82 (.iload 6) := ⟨by decide +kernel, rfl⟩
theorem eX11_order_82 : zd 1 cX11_order 82 83 (.ishr) := ⟨by decide +kernel, rfl⟩
theorem eX11_order_83 : zd 1 cX11_order 83 84 (.iconst 1) := ⟨by decide +kernel, rfl⟩
theorem eX11_order_84 : zd 1 cX11_order 84 85 (.iand) := ⟨by decide +kernel, rfl⟩
theorem eX11_order_85 : zd 1 cX11_order 85 86 (.iconst 1) := ⟨by decide +kernel, rfl⟩
theorem eX11_order_86 : zdi cX11_order 86 89 105 (.if_icmp .ne) := ⟨19, by decide +kernel, rfl, by decide⟩
theorem eX11_order_89 : zd 1 cX11_order 89 90 (.aload_n 0) := ⟨by decide +kernel, rfl⟩
theorem eX11_order_90 : zd 3 cX11_order 90 93 (.getfield 60) := ⟨by decide +kernel, rfl⟩
theorem eX11_order_93 : zd 1 cX11_order 93 94 (.iload_n 3) := ⟨by decide +kernel, rfl⟩
theorem eX11_order_94 : zd 1 cX11_order 94 95 (.iconst 1) := ⟨by decide +kernel, rfl⟩
theorem eX11_order_95 : zd 2 cX11_order 95 97 (.iload 6) := ⟨by decide +kernel, rfl⟩
theorem eX11_order_97 : zd 1 cX11_order 97 98 (.ishl) := ⟨by decide +kernel, rfl⟩
theorem eX11_order_98 : zd 1 cX11_order 98 99 (.iconst (-1)) := ⟨by decide +kernel, rfl⟩
theorem eX11_order_99 : zd 1 cX11_order 99 100 (.ixor) := ⟨by decide +kernel, rfl⟩
theorem eX11_order_100 : zd 1 cX11_order 100 101 (.iand) := ⟨by decide +kernel, rfl⟩
theorem eX11_order_101 : zd 1 cX11_order 101 102 (.laload) := ⟨by decide +kernel, rfl⟩
theorem eX11_order_102 : zdi cX11_order 102 105 108 (.goto) := ⟨6, by decide +kernel, rfl, by decide⟩
theorem eX11_order_105 : zd 3 cX11_order 105 108 (.ldc2_w 397) := ⟨by decide +kernel, rfl⟩
theorem eX11_order_108 : zd 2 cX11_order 108 110 (.lstore 7) := ⟨by decide +kernel, rfl⟩
theorem eX11_order_110 : zd 2 cX11_order 110 112 (.lload 7) := ⟨by decide +kernel, rfl⟩
theorem eX11_order_112 : zd 1 cX11_order 112 113 (.lconst 0) := ⟨by decide +kernel, rfl⟩
theorem eX11_order_113 : zd 1 cX11_order 113 114 (.lcmp) := ⟨by decide +kernel, rfl⟩
theorem eX11_order_114 : zdi cX11_order 114 117 137 (.ifCond .lt) := ⟨23, by decide +kernel, rfl, by decide⟩
theorem eX11_order_117 : zd 2 cX11_order 117 119 (.lload 4) := ⟨by decide +kernel, rfl⟩
theorem eX11_order_119 : zd 1 cX11_order 119 120 (.lconst 0) := ⟨by decide +kernel, rfl⟩
theorem eX11_order_120 : zd 1 cX11_order 120 121 (.lcmp) := ⟨by decide +kernel, rfl⟩
theorem eX11_order_121 : zdi cX11_order 121 124 132 (.ifCond .lt) := ⟨11, by decide +kernel, rfl, by decide⟩
theorem eX11_order_124 : zd 2 cX11_order 124 126 (.lload 7) := ⟨by decide +kernel, rfl⟩
theorem eX11_order_126 : zd 2 cX11_order 126 128 (.lload 4) := ⟨by decide +kernel, rfl⟩
theorem eX11_order_128 : zd 1 cX11_order 128 129 (.lcmp) := ⟨by decide +kernel, rfl⟩
theorem eX11_order_129 : zdi cX11_order 129 132 137 (.ifCond .ge) := ⟨8, by decide +kernel, rfl, by decide⟩
theorem eX11_order_132 : zd 2 cX11_order 132 134 (.lload 7) := ⟨by decide +kernel, rfl⟩
theorem eX11_order_134 : zdi cX11_order 134 137 139 (.goto) := ⟨5, by decide +kernel, rfl, by decide⟩
theorem eX11_order_137 : zd 2 cX11_order 137 139 (.lload 4) := ⟨by decide +kernel, rfl⟩
theorem eX11_order_139 : zd 2 cX11_order 139 141 (.lstore 4) := ⟨by decide +kernel, rfl⟩
theorem eX11_order_141 : zd 3 cX11_order 141 144 (.iinc 6 1) := ⟨by decide +kernel, rfl⟩
theorem eX11_order_144 : zdi cX11_order 144 147 72 (.goto) := ⟨(-72), by decide +kernel, rfl, by decide⟩
theorem eX11_order_147 : zd 1 cX11_order 147 148 (.aload_n 0) := ⟨by decide +kernel, rfl⟩
theorem eX11_order_148 : zd 3 cX11_order 148 151 (.getfield 60) := ⟨by decide +kernel, rfl⟩
theorem eX11_order_151 : zd 1 cX11_order 151 152 (.iload_n 3) := ⟨by decide +kernel, rfl⟩
theorem eX11_order_152 : zd 1 cX11_order 152 153 (.aload_n 0) := ⟨by decide +kernel, rfl⟩
theorem eX11_order_153 : zd 1 cX11_order 153 154 (.iload_n 3) := ⟨by decide +kernel, rfl⟩
theorem eX11_order_154 : zd 3 cX11_order 154 157 (.invokevirtual 399) := ⟨by decide +kernel, rfl⟩
theorem eX11_order_157 : zd 2 cX11_order 157 159 (.lload 4) := ⟨by decide +kernel, rfl⟩
theorem eX11_order_159 : zd 3 cX11_order 159 162 (.invokestatic 402) := ⟨by decide +kernel, rfl⟩
theorem eX11_order_162 : zd 1 cX11_order 162 163 (.lastore) := ⟨by decide +kernel, rfl⟩
theorem eX11_order_163 : zd 3 cX11_order 163 166 (.iinc 3 1) := ⟨by decide +kernel, rfl⟩
theorem eX11_order_166 : zdi cX11_order 166 169 51 (.goto) := ⟨(-115), by decide +kernel, rfl, by decide⟩
theorem eX11_order_169 : zd 1 cX11_order 169 170 (.iload_n 1) := ⟨by decide +kernel, rfl⟩
theorem eX11_order_170 : zd 1 cX11_order 170 171 (.iconst (-1)) := ⟨by decide +kernel, rfl⟩
theorem eX11_order_171 : zdi cX11_order 171 174 182 (.if_icmp .ne) := ⟨11, by decide +kernel, rfl, by decide⟩
theorem eX11_order_174 : zd 1 cX11_order 174 175 (.aload_n 0) := ⟨by decide +kernel, rfl⟩
theorem eX11_order_175 : zd 3 cX11_order 175 178 (.getfield 60) := ⟨by decide +kernel, rfl⟩
theorem eX11_order_178 : zd 1 cX11_order 178 179 (.iload_n 2) := ⟨by decide +kernel, rfl⟩
theorem eX11_order_179 : zd 1 cX11_order 179 180 (.laload) := ⟨by decide +kernel, rfl⟩
theorem eX11_order_180 : zd 1 cX11_order 180 181 (.l2i) := ⟨by decide +kernel, rfl⟩
theorem eX11_order_181 : zd 1 cX11_order 181 182 (.ireturn) := ⟨by decide +kernel, rfl⟩
theorem eX11_order_182 : zd 1 cX11_order 182 183 (.iload_n 1) := ⟨by decide +kernel, rfl⟩
theorem eX11_order_183 : zd 1 cX11_order 183 184 (.i2l) := ⟨by decide +kernel, rfl⟩
theorem eX11_order_184 : zd 1 cX11_order 184 185 (.lconst 0) := ⟨by decide +kernel, rfl⟩
theorem eX11_order_185 : zd 1 cX11_order 185 186 (.iload_n 2) := ⟨by decide +kernel, rfl⟩
theorem eX11_order_186 : zd 3 cX11_order 186 189 (.invokestatic 391) := ⟨by decide +kernel, rfl⟩
theorem eX11_order_189 : zd 1 cX11_order 189 190 (.iconst 1) := ⟨by decide +kernel, rfl⟩
theorem eX11_order_190 : zd 1 cX11_order 190 191 (.isub) := ⟨by decide +kernel, rfl⟩
theorem eX11_order_191 : zd 1 cX11_order 191 192 (.i2l) := ⟨by decide +kernel, rfl⟩
theorem eX11_order_192 : zd 3 cX11_order 192 195 (.invokestatic 86) := ⟨by decide +kernel, rfl⟩
theorem eX11_order_195 : zdi cX11_order 195 198 200 (.ifCond .ne) := ⟨5, by decide +kernel, rfl, by decide⟩
theorem eX11_order_198 : zd 1 cX11_order 198 199 (.iconst (-1)) := ⟨by decide +kernel, rfl⟩
theorem eX11_order_199 : zd 1 cX11_order 199 200 (.ireturn) := ⟨by decide +kernel, rfl⟩
theorem eX11_order_200 : zd 1 cX11_order 200 201 (.iload_n 2) := ⟨by decide +kernel, rfl⟩
theorem eX11_order_201 : zd 1 cX11_order 201 202 (.istore_n 3) := ⟨by decide +kernel, rfl⟩
theorem eX11_order_202 : zd 1 cX11_order 202 203 (.iconst (-1)) := ⟨by decide +kernel, rfl⟩
theorem eX11_order_203 : zd 2 cX11_order 203 205 (.istore 4) := ⟨by decide +kernel, rfl⟩
theorem eX11_order_205 : zd 1 cX11_order 205 206 (.iconst 0) := ⟨by decide +kernel, rfl⟩
theorem eX11_order_206 : zd 2 cX11_order 206 208 (.istore 5) := ⟨by decide +kernel, rfl⟩
theorem eX11_order_208 : zd 2 cX11_order 208 210 (.iload 5) := ⟨by decide +kernel, rfl⟩
theorem eX11_order_210 : zd 1 cX11_order 210 211 (.iload_n 1) := ⟨by decide +kernel, rfl⟩
theorem eX11_order_211 : zdi cX11_order 211 214 270 (.if_icmp .gt) := ⟨59, by decide +kernel, rfl, by decide⟩
theorem eX11_order_214 : zd 1 cX11_order 214 215 (.iconst 0) := ⟨by decide +kernel, rfl⟩
theorem eX11_order_215 : zd 2 cX11_order 215 217 (.istore 4) := ⟨by decide +kernel, rfl⟩
theorem eX11_order_217 : zd 1 cX11_order 217 218 (.iload_n 3) := ⟨by decide +kernel, rfl⟩
theorem eX11_order_218 : zd 2 cX11_order 218 220 (.iload 4) := ⟨by decide +kernel, rfl⟩
theorem eX11_order_220 : zd 1 cX11_order 220 221 (.ishr) := ⟨by decide +kernel, rfl⟩
theorem eX11_order_221 : zd 1 cX11_order 221 222 (.iconst 1) := ⟨by decide +kernel, rfl⟩
theorem eX11_order_222 : zd 1 cX11_order 222 223 (.iand) := ⟨by decide +kernel, rfl⟩
theorem eX11_order_223 : zdi cX11_order 223 226 249 (.ifCond .eq) := ⟨26, by decide +kernel, rfl, by decide⟩
theorem eX11_order_226 : zd 1 cX11_order 226 227 (.aload_n 0) := ⟨by decide +kernel, rfl⟩
theorem eX11_order_227 : zd 3 cX11_order 227 230 (.getfield 60) := ⟨by decide +kernel, rfl⟩
theorem eX11_order_230 : zd 1 cX11_order 230 231 (.iload_n 3) := ⟨by decide +kernel, rfl⟩
theorem eX11_order_231 : zd 1 cX11_order 231 232 (.iconst 1) := ⟨by decide +kernel, rfl⟩
theorem eX11_order_232 : zd 2 cX11_order 232 234 (.iload 4) := ⟨by decide +kernel, rfl⟩
theorem eX11_order_234 : zd 1 cX11_order 234 235 (.ishl) := ⟨by decide +kernel, rfl⟩
theorem eX11_order_235 : zd 1 cX11_order 235 236 (.iconst (-1)) := ⟨by decide +kernel, rfl⟩
theorem eX11_order_236 : zd 1 cX11_order 236 237 (.ixor) := ⟨by decide +kernel, rfl⟩
theorem eX11_order_237 : zd 1 cX11_order 237 238 (.iand) := ⟨by decide +kernel, rfl⟩
theorem eX11_order_238 : zd 1 cX11_order 238 239 (.laload) := ⟨by decide +kernel, rfl⟩
theorem eX11_order_239 : zd 1 cX11_order 239 240 (.aload_n 0) := ⟨by decide +kernel, rfl⟩
theorem eX11_order_240 : zd 3 cX11_order 240 243 (.getfield 60) := ⟨by decide +kernel, rfl⟩
theorem eX11_order_243 : zd 1 cX11_order 243 244 (.iload_n 2) := ⟨by decide +kernel, rfl⟩
theorem eX11_order_244 : zd 1 cX11_order 244 245 (.laload) := ⟨by decide +kernel, rfl⟩
theorem eX11_order_245 : zd 1 cX11_order 245 246 (.lcmp) := ⟨by decide +kernel, rfl⟩
theorem eX11_order_246 : zdi cX11_order 246 249 255 (.ifCond .le) := ⟨9, by decide +kernel, rfl, by decide⟩
theorem eX11_order_249 : zd 3 cX11_order 249 252 (.iinc 4 1) := ⟨by decide +kernel, rfl⟩
theorem eX11_order_252 : zdi cX11_order 252 255 217 (.goto) := ⟨(-35), by decide +kernel, rfl, by decide⟩
theorem eX11_order_255 : zd 1 cX11_order 255 256 (.iload_n 3) := ⟨by decide +kernel, rfl⟩
theorem eX11_order_256 : zd 1 cX11_order 256 257 (.iconst 1) := ⟨by decide +kernel, rfl⟩
theorem eX11_order_257 : zd 2 cX11_order 257 259 (.iload 4) := ⟨by decide +kernel, rfl⟩
theorem eX11_order_259 : zd 1 cX11_order 259 260 (.ishl) := ⟨by decide +kernel, rfl⟩
theorem eX11_order_260 : zd 1 cX11_order 260 261 (.iconst (-1)) := ⟨by decide +kernel, rfl⟩
theorem eX11_order_261 : zd 1 cX11_order 261 262 (.ixor) := ⟨by decide +kernel, rfl⟩
theorem eX11_order_262 : zd 1 cX11_order 262 263 (.iand) := ⟨by decide +kernel, rfl⟩
theorem eX11_order_263 : zd 1 cX11_order 263 264 (.istore_n 3) := ⟨by decide +kernel, rfl⟩
theorem eX11_order_264 : zd 3 cX11_order 264 267 (.iinc 5 1) := ⟨by decide +kernel, rfl⟩
theorem eX11_order_267 : zdi cX11_order 267 270 208 (.goto) := ⟨(-59), by decide +kernel, rfl, by decide⟩
theorem eX11_order_270 : zd 2 cX11_order 270 272 (.iload 4) := ⟨by decide +kernel, rfl⟩
theorem eX11_order_272 : zd 1 cX11_order 272 273 (.ireturn) := ⟨by decide +kernel, rfl⟩
theorem FX11_60 : zlF RX11 60 11 29 := ⟨(RX11, TX11, 34), rfl, by decide, q1100, zin11⟩
theorem MX11_391 : zlS RX11 391 yX11_bits cX11_bits 3 ((Option.some FieldType.int)) 1 := ⟨q1526, q1527, q12, q1528, by decide, by decide, by decide +kernel⟩
theorem MX11_399 : zlV RX11 399 yX11_strain cX11_strain 9 ((Option.some FieldType.long)) 1 := ⟨q1538, q1540, qs66, q12, q1541, by decide, by decide, by decide +kernel⟩
theorem MX11_402 : zlS RX11 402 yX11_greater cX11_greater 4 ((Option.some FieldType.long)) 2 := ⟨q1546, q1547, q12, q1548, by decide, by decide, by decide +kernel⟩
noncomputable def fB_Mo_order_4 (v0 : tMo) (ih : (Int32 × Int32) → Option (Int32 × Int32)) (s1 : Int32 × Int32) : Option (Int32 × Int32) := (if 6 ≤ (s1.2) then (some ((s1.1), (s1.2))) else (Option.bind (f_Mo_isFast v0 (s1.2)) (fun (r7 : Int32) => (zlet ((if r7 = 0 then 0 else (1 <<< ((s1.2) &&& 31))) : Int32) (fun (w9 : Int32) => (zlet ((s1.1) ||| w9) (fun (z12 : Int32) => (ih (z12, ((s1.2) + 1))))))))))
noncomputable def fB_Mo_order_72 (s14 : Int32 × (Nat → Int64)) (ih : (Int64 × Int32) → Option (Int64 × Int32)) (s21 : Int64 × Int32) : Option (Int64 × Int32) := (if 6 ≤ (s21.2) then (some ((s21.1), (s21.2))) else (Option.bind (if (((s14.1) >>> ((s21.2) &&& 31)) &&& 1) = 1 then (if inb ((s14.1) &&& ((1 <<< ((s21.2) &&& 31)) ^^^ (-1))) 64 = true then (some ((s14.2) (ix ((s14.1) &&& ((1 <<< ((s21.2) &&& 31)) ^^^ (-1)))))) else none) else (some (-1))) (fun (w27 : Int64) => (if w27 < 0 then (ih ((s21.1), ((s21.2) + 1))) else (if (s21.1) < 0 then (ih (w27, ((s21.2) + 1))) else (if (s21.1) ≤ w27 then (ih ((s21.1), ((s21.2) + 1))) else (ih (w27, ((s21.2) + 1)))))))))
noncomputable def fB_Mo_order_51 (v0 : tMo) (q2 : Int32 × Int32) (ih : (Int32 × (Nat → Int64)) → Option (Int32 × (Nat → Int64))) (s14 : Int32 × (Nat → Int64)) : Option (Int32 × (Nat → Int64)) := (if (q2.1) < (s14.1) then (some ((s14.1), (s14.2))) else (if ((s14.1) &&& ((q2.1) ^^^ (-1))) = 0 then (Option.bind (lp (fB_Mo_order_72 s14) LF ((-1), 0)) (fun (q22 : Int64 × Int32) => (Option.bind (f_Mo_strain ((gMo_ints v0), (gMo_told v0), (gMo_postX v0), (gMo_postStrong v0), (gMo_atRow v0), (gMo_heights v0), (gMo_ship v0), (gMo_lines v0), (gMo_text v0), (gMo_said v0), (gMo_readTold v0), (gMo_readX v0), (gMo_readStrong v0), (gMo_readRow v0), (gMo_parting v0), (gMo_wasShip v0), (gMo_wasLines v0), (s14.2), (gMo_logRow v0), (gMo_images v0), (gMo_isKept v0)) (s14.1)) (fun (r34 : Int64) => (zlet (f_Mo_greater r34 (q22.1)) (fun (z35 : Int64) => (if inb (s14.1) 64 = true then (ih (((s14.1) + 1), (vp_updL (s14.2) (ix (s14.1)) z35))) else none))))))) else (ih (((s14.1) + 1), (s14.2)))))
noncomputable def fB_Mo_order_217 (q2 : Int32 × Int32) (q15 : Int32 × (Nat → Int64)) (s42 : Int32 × Int32 × Int32) (ih : (Int32) → Option (Int32)) (s48 : Int32) : Option (Int32) := (if (((s42.1) >>> (s48 &&& 31)) &&& 1) = 0 then (ih (s48 + 1)) else (if inb ((s42.1) &&& ((1 <<< (s48 &&& 31)) ^^^ (-1))) 64 = true then (if inb (q2.1) 64 = true then (if ((q15.2) (ix ((s42.1) &&& ((1 <<< (s48 &&& 31)) ^^^ (-1))))) ≤ ((q15.2) (ix (q2.1))) then (some s48) else (ih (s48 + 1))) else none) else none))
noncomputable def fB_Mo_order_208 (p1 : Int32) (q2 : Int32 × Int32) (q15 : Int32 × (Nat → Int64)) (ih : (Int32 × Int32 × Int32) → Option (Int32 × Int32 × Int32)) (s42 : Int32 × Int32 × Int32) : Option (Int32 × Int32 × Int32) := (if p1 < (s42.2.2) then (some ((s42.1), (s42.2.1), (s42.2.2))) else (Option.bind (lp (fB_Mo_order_217 q2 q15 s42) LF 0) (fun (q49 : Int32) => (zlet ((s42.1) &&& ((1 <<< (q49 &&& 31)) ^^^ (-1))) (fun (z57 : Int32) => (ih (z57, q49, ((s42.2.2) + 1))))))))
noncomputable def f_Mo_order (v0 : tMo) (p1 : Int32) : Option (Int32 × (Nat → Int64)) := (Option.bind (lp (fB_Mo_order_4 v0) LF (0, 0)) (fun (q2 : Int32 × Int32) => (if (q2.1) = 0 then (some ((-1000000003), (gMo_worst v0))) else (Option.bind (lp (fB_Mo_order_51 v0 q2) LF (1, (vp_updL (gMo_worst v0) 0 0))) (fun (q15 : Int32 × (Nat → Int64)) => (if p1 = (-1) then (if inb (q2.1) 64 = true then (some (((q15.2) (ix (q2.1))).toInt32, (q15.2))) else none) else (Option.bind (f_Mo_bits (q2.1)) (fun (r39 : Int32) => (if (f_Mo_in p1.toInt64 0 (r39 - 1).toInt64) = 0 then (some ((-1), (q15.2))) else (Option.bind (lp (fB_Mo_order_208 p1 q2 q15) LF ((q2.1), (-1), 0)) (fun (q43 : Int32 × Int32 × Int32) => (some ((q43.2.1), (q15.2))))))))))))))
abbrev rm_Mo_order : Room := { frames := 5, cells := 0, slots := 0, locals := 114 }
set_option maxHeartbeats 4000000 in
set_option maxRecDepth 100000 in
theorem c_Mo_order (l : Launch) (g : zGl) (a0 : Nat → Nat) (o0 : Nat) (v0 : tMo) (p1 : Int32) (out : Int32 × (Nat → Int64)) (hf : f_Mo_order v0 p1 = some out) : zMi l yX11_order cX11_order 9 rm_Mo_order g [.ref (a0 o0), .int p1] (W_Mo g a0 o0 (gMo_ints v0) (gMo_told v0) (gMo_postX v0) (gMo_postStrong v0) (gMo_atRow v0) (gMo_heights v0) (gMo_ship v0) (gMo_lines v0) (gMo_text v0) (gMo_said v0) (gMo_readTold v0) (gMo_readX v0) (gMo_readStrong v0) (gMo_readRow v0) (gMo_parting v0) (gMo_wasShip v0) (gMo_wasLines v0) (gMo_worst v0) (gMo_logRow v0) (gMo_images v0) (gMo_isKept v0)) (out.1) (W_Mo g a0 o0 (gMo_ints v0) (gMo_told v0) (gMo_postX v0) (gMo_postStrong v0) (gMo_atRow v0) (gMo_heights v0) (gMo_ship v0) (gMo_lines v0) (gMo_text v0) (gMo_said v0) (gMo_readTold v0) (gMo_readX v0) (gMo_readStrong v0) (gMo_readRow v0) (gMo_parting v0) (gMo_wasShip v0) (gMo_wasLines v0) (out.2) (gMo_logRow v0) (gMo_images v0) (gMo_isKept v0)) := by
  refine zMi_of (lv := [(0, .ref (a0 o0)), (1, .int p1)]) (by decide) (Nat.le_of_ble_eq_true rfl) rfl (fun x hl hg C hret => ?_)
  subst hl; subst hg
  rw [f_Mo_order] at hf
  refine r_iconst C (v := 0) eX11_order_0 (by decide) ?_
  refine r_istore_n C [(2, .int 0), (0, .ref (a0 o0)), (1, .int p1)] eX11_order_1 rfl (by decide) rfl ?_
  refine r_iconst C (v := 0) eX11_order_2 (by decide) ?_
  refine r_istore_n C [(3, .int 0), (2, .int 0), (0, .ref (a0 o0)), (1, .int p1)] eX11_order_3 rfl (by decide) rfl ?_
  obtain ⟨q2, h3, hf⟩ := zbind hf
  have J4 : vV x 9 0 0 (W_Mo (z_g x) a0 o0 (gMo_ints v0) (gMo_told v0) (gMo_postX v0) (gMo_postStrong v0) (gMo_atRow v0) (gMo_heights v0) (gMo_ship v0) (gMo_lines v0) (gMo_text v0) (gMo_said v0) (gMo_readTold v0) (gMo_readX v0) (gMo_readStrong v0) (gMo_readRow v0) (gMo_parting v0) (gMo_wasShip v0) (gMo_wasLines v0) (gMo_worst v0) (gMo_logRow v0) (gMo_images v0) (gMo_isKept v0)) 34 [(0, .ref (a0 o0)), (1, .int p1), (2, .int (q2.1))] [] := by
    refine r_iload_n C eX11_order_34 2 rfl rfl ?_
    refine r_if_ne C eX11_order_35 (fun c13 => ?_) (fun c13 => ?_)
    · rw [if_neg c13] at hf
      refine r_aload_n C eX11_order_42 0 rfl rfl ?_
      refine r_get (v := .ref (a0 (o0 + 16))) C eX11_order_43 FX11_60 0 rfl rfl ?_
      refine r_iconst C (v := 0) eX11_order_46 (by decide) ?_
      refine r_lconst C (v := 0) eX11_order_47 (by decide) ?_
      refine r_lastN (ws' := W_Mo (z_g x) a0 o0 (gMo_ints v0) (gMo_told v0) (gMo_postX v0) (gMo_postStrong v0) (gMo_atRow v0) (gMo_heights v0) (gMo_ship v0) (gMo_lines v0) (gMo_text v0) (gMo_said v0) (gMo_readTold v0) (gMo_readX v0) (gMo_readStrong v0) (gMo_readRow v0) (gMo_parting v0) (gMo_wasShip v0) (gMo_wasLines v0) (vp_updL (gMo_worst v0) 0 0) (gMo_logRow v0) (gMo_images v0) (gMo_isKept v0)) C eX11_order_48 16 0 (by decide) rfl rfl ?_
      refine r_iconst C (v := 1) eX11_order_49 (by decide) ?_
      refine r_istore_n C [(3, .int 1), (0, .ref (a0 o0)), (1, .int p1), (2, .int (q2.1))] eX11_order_50 rfl (by decide) rfl ?_
      obtain ⟨q15, h16, hf⟩ := zbind hf
      have J17 : vV x 9 0 0 (W_Mo (z_g x) a0 o0 (gMo_ints v0) (gMo_told v0) (gMo_postX v0) (gMo_postStrong v0) (gMo_atRow v0) (gMo_heights v0) (gMo_ship v0) (gMo_lines v0) (gMo_text v0) (gMo_said v0) (gMo_readTold v0) (gMo_readX v0) (gMo_readStrong v0) (gMo_readRow v0) (gMo_parting v0) (gMo_wasShip v0) (gMo_wasLines v0) (q15.2) (gMo_logRow v0) (gMo_images v0) (gMo_isKept v0)) 169 [(0, .ref (a0 o0)), (1, .int p1), (2, .int (q2.1))] [] := by
        refine r_iload_n C eX11_order_169 1 rfl rfl ?_
        refine r_iconst C (v := (-1)) eX11_order_170 (by decide) ?_
        refine r_icmp_ne C eX11_order_171 (fun c37 => ?_) (fun c37 => ?_)
        · rw [if_neg c37] at hf
          refine r_iload_n C eX11_order_182 1 rfl rfl ?_
          refine r_i2l C eX11_order_183 ?_
          refine r_lconst C (v := 0) eX11_order_184 (by decide) ?_
          refine r_iload_n C eX11_order_185 2 rfl rfl ?_
          obtain ⟨r39, hr39, hf⟩ := zbind hf
          refine r_S_i (ws' := W_Mo (z_g x) a0 o0 (gMo_ints v0) (gMo_told v0) (gMo_postX v0) (gMo_postStrong v0) (gMo_atRow v0) (gMo_heights v0) (gMo_ship v0) (gMo_lines v0) (gMo_text v0) (gMo_said v0) (gMo_readTold v0) (gMo_readX v0) (gMo_readStrong v0) (gMo_readRow v0) (gMo_parting v0) (gMo_wasShip v0) (gMo_wasLines v0) (q15.2) (gMo_logRow v0) (gMo_images v0) (gMo_isKept v0)) C (c_Mo_bits (z_l x) (z_g x)  (q2.1) r39 hr39) eX11_order_186 MX11_391 [] rfl rfl rfl rfl [0, 1, 2, 3, 4, 5, 6, 7, 8, 9, 10, 11, 12, 13, 14, 15, 16, 17, 18, 19] rfl ⟨rfl, rfl, rfl, rfl, rfl, rfl, rfl, rfl, rfl, rfl, rfl, rfl, rfl, rfl, rfl, rfl, rfl, rfl, rfl, rfl, trivial⟩ 20 rfl rfl rfl rfl rfl rfl ?_
          refine r_iconst C (v := 1) eX11_order_189 (by decide) ?_
          refine r_isub C eX11_order_190 ?_
          refine r_i2l C eX11_order_191 ?_
          refine r_S_z (ws' := W_Mo (z_g x) a0 o0 (gMo_ints v0) (gMo_told v0) (gMo_postX v0) (gMo_postStrong v0) (gMo_atRow v0) (gMo_heights v0) (gMo_ship v0) (gMo_lines v0) (gMo_text v0) (gMo_said v0) (gMo_readTold v0) (gMo_readX v0) (gMo_readStrong v0) (gMo_readRow v0) (gMo_parting v0) (gMo_wasShip v0) (gMo_wasLines v0) (q15.2) (gMo_logRow v0) (gMo_images v0) (gMo_isKept v0)) C (c_Mo_in (z_l x) (z_g x)  p1.toInt64 0 (r39 - 1).toInt64 _ rfl) eX11_order_192 MX11_86 [] rfl rfl rfl rfl [0, 1, 2, 3, 4, 5, 6, 7, 8, 9, 10, 11, 12, 13, 14, 15, 16, 17, 18, 19] rfl ⟨rfl, rfl, rfl, rfl, rfl, rfl, rfl, rfl, rfl, rfl, rfl, rfl, rfl, rfl, rfl, rfl, rfl, rfl, rfl, rfl, trivial⟩ 20 rfl rfl rfl rfl rfl rfl (fun zb40 => ?_)
          refine r_if_ne C eX11_order_195 (fun c41 => ?_) (fun c41 => ?_)
          · rw [if_neg c41] at hf
            refine r_iload_n C eX11_order_200 2 rfl rfl ?_
            refine r_istore_n C [(3, .int (q2.1)), (0, .ref (a0 o0)), (1, .int p1), (2, .int (q2.1))] eX11_order_201 rfl (by decide) rfl ?_
            refine r_iconst C (v := (-1)) eX11_order_202 (by decide) ?_
            refine r_istore C [(4, .int (-1)), (3, .int (q2.1)), (0, .ref (a0 o0)), (1, .int p1), (2, .int (q2.1))] eX11_order_203 (by decide) rfl ?_
            refine r_iconst C (v := 0) eX11_order_205 (by decide) ?_
            refine r_istore C [(5, .int 0), (4, .int (-1)), (3, .int (q2.1)), (0, .ref (a0 o0)), (1, .int p1), (2, .int (q2.1))] eX11_order_206 (by decide) rfl ?_
            obtain ⟨q43, h44, hf⟩ := zbind hf
            have J45 : vV x 9 0 0 (W_Mo (z_g x) a0 o0 (gMo_ints v0) (gMo_told v0) (gMo_postX v0) (gMo_postStrong v0) (gMo_atRow v0) (gMo_heights v0) (gMo_ship v0) (gMo_lines v0) (gMo_text v0) (gMo_said v0) (gMo_readTold v0) (gMo_readX v0) (gMo_readStrong v0) (gMo_readRow v0) (gMo_parting v0) (gMo_wasShip v0) (gMo_wasLines v0) (q15.2) (gMo_logRow v0) (gMo_images v0) (gMo_isKept v0)) 270 [(4, .int (q43.2.1))] [] := by
              refine r_iload C eX11_order_270 0 rfl ?_
              obtain rfl := Option.some.inj (show some (((q43.2.1), (q15.2)) : Int32 × (Nat → Int64)) = some _ from hf)
              exact hret _ _ _ eX11_order_272
            have L46 : ∀ (nL46 : Nat) (s42 : Int32 × Int32 × Int32), lp (fB_Mo_order_208 p1 q2 q15) nL46 s42 = some q43 → vV x 9 0 0 (W_Mo (z_g x) a0 o0 (gMo_ints v0) (gMo_told v0) (gMo_postX v0) (gMo_postStrong v0) (gMo_atRow v0) (gMo_heights v0) (gMo_ship v0) (gMo_lines v0) (gMo_text v0) (gMo_said v0) (gMo_readTold v0) (gMo_readX v0) (gMo_readStrong v0) (gMo_readRow v0) (gMo_parting v0) (gMo_wasShip v0) (gMo_wasLines v0) (q15.2) (gMo_logRow v0) (gMo_images v0) (gMo_isKept v0)) 208 [(0, .ref (a0 o0)), (1, .int p1), (2, .int (q2.1)), (3, .int (s42.1)), (4, .int (s42.2.1)), (5, .int (s42.2.2))] [] := by
              intro nL46
              induction nL46 with
              | zero => intro s42 hq; cases hq
              | succ nL46 ihL46 =>
                intro s42 hbL46
                rw [lp_succ, fB_Mo_order_208] at hbL46
                refine r_iload C eX11_order_208 5 rfl ?_
                refine r_iload_n C eX11_order_210 1 rfl rfl ?_
                refine r_icmp_gt C eX11_order_211 (fun c47 => ?_) (fun c47 => ?_)
                · rw [if_pos c47] at hbL46
                  obtain rfl := Option.some.inj hbL46
                  refine r_sub (lv' := [(4, .int (s42.2.1))]) [4] rfl ?_
                  exact J45
                · rw [if_neg c47] at hbL46
                  refine r_iconst C (v := 0) eX11_order_214 (by decide) ?_
                  refine r_istore C [(4, .int 0), (0, .ref (a0 o0)), (1, .int p1), (2, .int (q2.1)), (3, .int (s42.1)), (5, .int (s42.2.2))] eX11_order_215 (by decide) rfl ?_
                  obtain ⟨q49, h50, hbL46⟩ := zbind hbL46
                  have J51 : vV x 9 0 0 (W_Mo (z_g x) a0 o0 (gMo_ints v0) (gMo_told v0) (gMo_postX v0) (gMo_postStrong v0) (gMo_atRow v0) (gMo_heights v0) (gMo_ship v0) (gMo_lines v0) (gMo_text v0) (gMo_said v0) (gMo_readTold v0) (gMo_readX v0) (gMo_readStrong v0) (gMo_readRow v0) (gMo_parting v0) (gMo_wasShip v0) (gMo_wasLines v0) (q15.2) (gMo_logRow v0) (gMo_images v0) (gMo_isKept v0)) 255 [(0, .ref (a0 o0)), (1, .int p1), (2, .int (q2.1)), (3, .int (s42.1)), (4, .int q49), (5, .int (s42.2.2))] [] := by
                    refine r_iload_n C eX11_order_255 3 rfl rfl ?_
                    refine r_iconst C (v := 1) eX11_order_256 (by decide) ?_
                    refine r_iload C eX11_order_257 4 rfl ?_
                    refine r_ishl C eX11_order_259 ?_
                    refine r_iconst C (v := (-1)) eX11_order_260 (by decide) ?_
                    refine r_ixor C eX11_order_261 ?_
                    refine r_iand C eX11_order_262 ?_
                    obtain ⟨z57, hz57, hbL46⟩ := zlet_of hbL46
                    refine r_nami hz57 ?_
                    refine r_istore_n C [(3, .int z57), (0, .ref (a0 o0)), (1, .int p1), (2, .int (q2.1)), (4, .int q49), (5, .int (s42.2.2))] eX11_order_263 rfl (by decide) rfl ?_
                    refine r_iinc C (v := ((s42.2.2) + 1)) [(5, .int ((s42.2.2) + 1)), (3, .int z57), (0, .ref (a0 o0)), (1, .int p1), (2, .int (q2.1)), (4, .int q49)] eX11_order_264 5 rfl rfl (by decide) rfl ?_
                    refine r_goto C eX11_order_267 ?_
                    refine r_sub (lv' := [(0, .ref (a0 o0)), (1, .int p1), (2, .int (q2.1)), (3, .int z57), (4, .int q49), (5, .int ((s42.2.2) + 1))]) [2, 3, 4, 1, 5, 0] rfl ?_
                    have hc := ihL46 (z57, q49, ((s42.2.2) + 1)) hbL46
                    exact hc
                  have L52 : ∀ (nL52 : Nat) (s48 : Int32), lp (fB_Mo_order_217 q2 q15 s42) nL52 s48 = some q49 → vV x 9 0 0 (W_Mo (z_g x) a0 o0 (gMo_ints v0) (gMo_told v0) (gMo_postX v0) (gMo_postStrong v0) (gMo_atRow v0) (gMo_heights v0) (gMo_ship v0) (gMo_lines v0) (gMo_text v0) (gMo_said v0) (gMo_readTold v0) (gMo_readX v0) (gMo_readStrong v0) (gMo_readRow v0) (gMo_parting v0) (gMo_wasShip v0) (gMo_wasLines v0) (q15.2) (gMo_logRow v0) (gMo_images v0) (gMo_isKept v0)) 217 [(0, .ref (a0 o0)), (1, .int p1), (2, .int (q2.1)), (3, .int (s42.1)), (4, .int s48), (5, .int (s42.2.2))] [] := by
                    intro nL52
                    induction nL52 with
                    | zero => intro s48 hq; cases hq
                    | succ nL52 ihL52 =>
                      intro s48 hbL52
                      rw [lp_succ, fB_Mo_order_217] at hbL52
                      refine r_iload_n C eX11_order_217 3 rfl rfl ?_
                      refine r_iload C eX11_order_218 4 rfl ?_
                      refine r_ishr C eX11_order_220 ?_
                      refine r_iconst C (v := 1) eX11_order_221 (by decide) ?_
                      refine r_iand C eX11_order_222 ?_
                      refine r_if_eq C eX11_order_223 (fun c53 => ?_) (fun c53 => ?_)
                      · rw [if_pos c53] at hbL52
                        refine r_iinc C (v := (s48 + 1)) [(4, .int (s48 + 1)), (0, .ref (a0 o0)), (1, .int p1), (2, .int (q2.1)), (3, .int (s42.1)), (5, .int (s42.2.2))] eX11_order_249 4 rfl rfl (by decide) rfl ?_
                        refine r_goto C eX11_order_252 ?_
                        refine r_sub (lv' := [(0, .ref (a0 o0)), (1, .int p1), (2, .int (q2.1)), (3, .int (s42.1)), (4, .int (s48 + 1)), (5, .int (s42.2.2))]) [1, 2, 3, 4, 0, 5] rfl ?_
                        have hc := ihL52 (s48 + 1) hbL52
                        exact hc
                      · rw [if_neg c53] at hbL52
                        refine r_aload_n C eX11_order_226 0 rfl rfl ?_
                        refine r_get (v := .ref (a0 (o0 + 16))) C eX11_order_227 FX11_60 0 rfl rfl ?_
                        refine r_iload_n C eX11_order_230 3 rfl rfl ?_
                        refine r_iconst C (v := 1) eX11_order_231 (by decide) ?_
                        refine r_iload C eX11_order_232 4 rfl ?_
                        refine r_ishl C eX11_order_234 ?_
                        refine r_iconst C (v := (-1)) eX11_order_235 (by decide) ?_
                        refine r_ixor C eX11_order_236 ?_
                        refine r_iand C eX11_order_237 ?_
                        obtain ⟨hb54, hbL52⟩ := zchk hbL52
                        refine r_lald C eX11_order_238 16 rfl (inb_in hb54) ((q15.2) (ix ((s42.1) &&& ((1 <<< (s48 &&& 31)) ^^^ (-1))))) rfl ?_
                        refine r_aload_n C eX11_order_239 0 rfl rfl ?_
                        refine r_get (v := .ref (a0 (o0 + 16))) C eX11_order_240 FX11_60 0 rfl rfl ?_
                        refine r_iload_n C eX11_order_243 2 rfl rfl ?_
                        obtain ⟨hb55, hbL52⟩ := zchk hbL52
                        refine r_lald C eX11_order_244 16 rfl (inb_in hb55) ((q15.2) (ix (q2.1))) rfl ?_
                        refine r_lcmp_le C eX11_order_245 eX11_order_246 (fun c56 => ?_) (fun c56 => ?_)
                        · rw [if_pos c56] at hbL52
                          obtain rfl := Option.some.inj hbL52
                          exact J51
                        · rw [if_neg c56] at hbL52
                          refine r_iinc C (v := (s48 + 1)) [(4, .int (s48 + 1)), (0, .ref (a0 o0)), (1, .int p1), (2, .int (q2.1)), (3, .int (s42.1)), (5, .int (s42.2.2))] eX11_order_249 4 rfl rfl (by decide) rfl ?_
                          refine r_goto C eX11_order_252 ?_
                          refine r_sub (lv' := [(0, .ref (a0 o0)), (1, .int p1), (2, .int (q2.1)), (3, .int (s42.1)), (4, .int (s48 + 1)), (5, .int (s42.2.2))]) [1, 2, 3, 4, 0, 5] rfl ?_
                          have hc := ihL52 (s48 + 1) hbL52
                          exact hc
                  refine r_sub (lv' := [(0, .ref (a0 o0)), (1, .int p1), (2, .int (q2.1)), (3, .int (s42.1)), (4, .int 0), (5, .int (s42.2.2))]) [1, 2, 3, 4, 0, 5] rfl ?_
                  have hc := L52 LF 0 h50
                  exact hc
            refine r_sub (lv' := [(0, .ref (a0 o0)), (1, .int p1), (2, .int (q2.1)), (3, .int (q2.1)), (4, .int (-1)), (5, .int 0)]) [3, 4, 5, 2, 1, 0] rfl ?_
            have hc := L46 LF ((q2.1), (-1), 0) h44
            exact hc
          · rw [if_pos c41] at hf
            refine r_iconst C (v := (-1)) eX11_order_198 (by decide) ?_
            obtain rfl := Option.some.inj (show some (((-1), (q15.2)) : Int32 × (Nat → Int64)) = some _ from hf)
            exact hret _ _ _ eX11_order_199
        · rw [if_pos c37] at hf
          refine r_aload_n C eX11_order_174 0 rfl rfl ?_
          refine r_get (v := .ref (a0 (o0 + 16))) C eX11_order_175 FX11_60 0 rfl rfl ?_
          refine r_iload_n C eX11_order_178 2 rfl rfl ?_
          obtain ⟨hb38, hf⟩ := zchk hf
          refine r_lald C eX11_order_179 16 rfl (inb_in hb38) ((q15.2) (ix (q2.1))) rfl ?_
          refine r_l2i C eX11_order_180 ?_
          obtain rfl := Option.some.inj (show some ((((q15.2) (ix (q2.1))).toInt32, (q15.2)) : Int32 × (Nat → Int64)) = some _ from hf)
          exact hret _ _ _ eX11_order_181
      have L18 : ∀ (nL18 : Nat) (s14 : Int32 × (Nat → Int64)), lp (fB_Mo_order_51 v0 q2) nL18 s14 = some q15 → vV x 9 0 0 (W_Mo (z_g x) a0 o0 (gMo_ints v0) (gMo_told v0) (gMo_postX v0) (gMo_postStrong v0) (gMo_atRow v0) (gMo_heights v0) (gMo_ship v0) (gMo_lines v0) (gMo_text v0) (gMo_said v0) (gMo_readTold v0) (gMo_readX v0) (gMo_readStrong v0) (gMo_readRow v0) (gMo_parting v0) (gMo_wasShip v0) (gMo_wasLines v0) (s14.2) (gMo_logRow v0) (gMo_images v0) (gMo_isKept v0)) 51 [(0, .ref (a0 o0)), (1, .int p1), (2, .int (q2.1)), (3, .int (s14.1))] [] := by
        intro nL18
        induction nL18 with
        | zero => intro s14 hq; cases hq
        | succ nL18 ihL18 =>
          intro s14 hbL18
          rw [lp_succ, fB_Mo_order_51] at hbL18
          refine r_iload_n C eX11_order_51 3 rfl rfl ?_
          refine r_iload_n C eX11_order_52 2 rfl rfl ?_
          refine r_icmp_gt C eX11_order_53 (fun c19 => ?_) (fun c19 => ?_)
          · rw [if_pos c19] at hbL18
            obtain rfl := Option.some.inj hbL18
            refine r_sub (lv' := [(0, .ref (a0 o0)), (1, .int p1), (2, .int (q2.1))]) [0, 1, 2] rfl ?_
            exact J17
          · rw [if_neg c19] at hbL18
            refine r_iload_n C eX11_order_56 3 rfl rfl ?_
            refine r_iload_n C eX11_order_57 2 rfl rfl ?_
            refine r_iconst C (v := (-1)) eX11_order_58 (by decide) ?_
            refine r_ixor C eX11_order_59 ?_
            refine r_iand C eX11_order_60 ?_
            refine r_if_ne C eX11_order_61 (fun c20 => ?_) (fun c20 => ?_)
            · rw [if_neg c20] at hbL18
              refine r_iinc C (v := ((s14.1) + 1)) [(3, .int ((s14.1) + 1)), (0, .ref (a0 o0)), (1, .int p1), (2, .int (q2.1))] eX11_order_163 3 rfl rfl (by decide) rfl ?_
              refine r_goto C eX11_order_166 ?_
              refine r_sub (lv' := [(0, .ref (a0 o0)), (1, .int p1), (2, .int (q2.1)), (3, .int ((s14.1) + 1))]) [1, 2, 3, 0] rfl ?_
              have hc := ihL18 (((s14.1) + 1), (s14.2)) hbL18
              exact hc
            · rw [if_pos c20] at hbL18
              refine r_ldc2 C (v := (-1)) eX11_order_64 q1537 ?_
              refine r_lstore C [(4, .long (-1)), (0, .ref (a0 o0)), (1, .int p1), (2, .int (q2.1)), (3, .int (s14.1))] eX11_order_67 (by decide) rfl ?_
              refine r_iconst C (v := 0) eX11_order_69 (by decide) ?_
              refine r_istore C [(6, .int 0), (4, .long (-1)), (0, .ref (a0 o0)), (1, .int p1), (2, .int (q2.1)), (3, .int (s14.1))] eX11_order_70 (by decide) rfl ?_
              obtain ⟨q22, h23, hbL18⟩ := zbind hbL18
              have J24 : vV x 9 0 0 (W_Mo (z_g x) a0 o0 (gMo_ints v0) (gMo_told v0) (gMo_postX v0) (gMo_postStrong v0) (gMo_atRow v0) (gMo_heights v0) (gMo_ship v0) (gMo_lines v0) (gMo_text v0) (gMo_said v0) (gMo_readTold v0) (gMo_readX v0) (gMo_readStrong v0) (gMo_readRow v0) (gMo_parting v0) (gMo_wasShip v0) (gMo_wasLines v0) (s14.2) (gMo_logRow v0) (gMo_images v0) (gMo_isKept v0)) 147 [(0, .ref (a0 o0)), (1, .int p1), (2, .int (q2.1)), (3, .int (s14.1)), (4, .long (q22.1))] [] := by
                refine r_aload_n C eX11_order_147 0 rfl rfl ?_
                refine r_get (v := .ref (a0 (o0 + 16))) C eX11_order_148 FX11_60 0 rfl rfl ?_
                refine r_iload_n C eX11_order_151 3 rfl rfl ?_
                refine r_aload_n C eX11_order_152 0 rfl rfl ?_
                refine r_iload_n C eX11_order_153 3 rfl rfl ?_
                obtain ⟨r34, hr34, hbL18⟩ := zbind hbL18
                refine r_V_l (ws' := W_Mo (z_g x) a0 o0 (gMo_ints v0) (gMo_told v0) (gMo_postX v0) (gMo_postStrong v0) (gMo_atRow v0) (gMo_heights v0) (gMo_ship v0) (gMo_lines v0) (gMo_text v0) (gMo_said v0) (gMo_readTold v0) (gMo_readX v0) (gMo_readStrong v0) (gMo_readRow v0) (gMo_parting v0) (gMo_wasShip v0) (gMo_wasLines v0) (s14.2) (gMo_logRow v0) (gMo_images v0) (gMo_isKept v0)) C (c_Mo_strain (z_l x) (z_g x) a0 o0 ((gMo_ints v0), (gMo_told v0), (gMo_postX v0), (gMo_postStrong v0), (gMo_atRow v0), (gMo_heights v0), (gMo_ship v0), (gMo_lines v0), (gMo_text v0), (gMo_said v0), (gMo_readTold v0), (gMo_readX v0), (gMo_readStrong v0), (gMo_readRow v0), (gMo_parting v0), (gMo_wasShip v0), (gMo_wasLines v0), (s14.2), (gMo_logRow v0), (gMo_images v0), (gMo_isKept v0)) (s14.1) r34 hr34) eX11_order_154 MX11_399 ⟨0, 11, _, _, rfl, rfl, rfl⟩ [0, 1, 2, 3, 4, 5, 6, 7, 8, 9, 10, 11, 12, 13, 14, 15, 16, 17, 18, 19] rfl rfl rfl rfl [] rfl trivial 20 rfl rfl rfl rfl rfl rfl ?_
                refine r_lload C eX11_order_157 4 rfl ?_
                refine r_S_l (ws' := W_Mo (z_g x) a0 o0 (gMo_ints v0) (gMo_told v0) (gMo_postX v0) (gMo_postStrong v0) (gMo_atRow v0) (gMo_heights v0) (gMo_ship v0) (gMo_lines v0) (gMo_text v0) (gMo_said v0) (gMo_readTold v0) (gMo_readX v0) (gMo_readStrong v0) (gMo_readRow v0) (gMo_parting v0) (gMo_wasShip v0) (gMo_wasLines v0) (s14.2) (gMo_logRow v0) (gMo_images v0) (gMo_isKept v0)) C (c_Mo_greater (z_l x) (z_g x)  r34 (q22.1) _ rfl) eX11_order_159 MX11_402 [] rfl rfl rfl rfl [0, 1, 2, 3, 4, 5, 6, 7, 8, 9, 10, 11, 12, 13, 14, 15, 16, 17, 18, 19] rfl ⟨rfl, rfl, rfl, rfl, rfl, rfl, rfl, rfl, rfl, rfl, rfl, rfl, rfl, rfl, rfl, rfl, rfl, rfl, rfl, rfl, trivial⟩ 20 rfl rfl rfl rfl rfl rfl ?_
                obtain ⟨z35, hz35, hbL18⟩ := zlet_of hbL18
                refine r_naml hz35 ?_
                obtain ⟨hb36, hbL18⟩ := zchk hbL18
                refine r_last (ws' := W_Mo (z_g x) a0 o0 (gMo_ints v0) (gMo_told v0) (gMo_postX v0) (gMo_postStrong v0) (gMo_atRow v0) (gMo_heights v0) (gMo_ship v0) (gMo_lines v0) (gMo_text v0) (gMo_said v0) (gMo_readTold v0) (gMo_readX v0) (gMo_readStrong v0) (gMo_readRow v0) (gMo_parting v0) (gMo_wasShip v0) (gMo_wasLines v0) (vp_updL (s14.2) (ix (s14.1)) z35) (gMo_logRow v0) (gMo_images v0) (gMo_isKept v0)) C eX11_order_162 16 rfl (inb_in hb36) rfl ?_
                refine r_iinc C (v := ((s14.1) + 1)) [(3, .int ((s14.1) + 1)), (0, .ref (a0 o0)), (1, .int p1), (2, .int (q2.1)), (4, .long (q22.1))] eX11_order_163 3 rfl rfl (by decide) rfl ?_
                refine r_goto C eX11_order_166 ?_
                refine r_sub (lv' := [(0, .ref (a0 o0)), (1, .int p1), (2, .int (q2.1)), (3, .int ((s14.1) + 1))]) [1, 2, 3, 0] rfl ?_
                have hc := ihL18 (((s14.1) + 1), (vp_updL (s14.2) (ix (s14.1)) z35)) hbL18
                exact hc
              have L25 : ∀ (nL25 : Nat) (s21 : Int64 × Int32), lp (fB_Mo_order_72 s14) nL25 s21 = some q22 → vV x 9 0 0 (W_Mo (z_g x) a0 o0 (gMo_ints v0) (gMo_told v0) (gMo_postX v0) (gMo_postStrong v0) (gMo_atRow v0) (gMo_heights v0) (gMo_ship v0) (gMo_lines v0) (gMo_text v0) (gMo_said v0) (gMo_readTold v0) (gMo_readX v0) (gMo_readStrong v0) (gMo_readRow v0) (gMo_parting v0) (gMo_wasShip v0) (gMo_wasLines v0) (s14.2) (gMo_logRow v0) (gMo_images v0) (gMo_isKept v0)) 72 [(0, .ref (a0 o0)), (1, .int p1), (2, .int (q2.1)), (3, .int (s14.1)), (4, .long (s21.1)), (6, .int (s21.2))] [] := by
                intro nL25
                induction nL25 with
                | zero => intro s21 hq; cases hq
                | succ nL25 ihL25 =>
                  intro s21 hbL25
                  rw [lp_succ, fB_Mo_order_72] at hbL25
                  refine r_iload C eX11_order_72 5 rfl ?_
                  refine r_bipush C (v := 6) eX11_order_74 (by decide) ?_
                  refine r_icmp_ge C eX11_order_76 (fun c26 => ?_) (fun c26 => ?_)
                  · rw [if_pos c26] at hbL25
                    obtain rfl := Option.some.inj hbL25
                    refine r_sub (lv' := [(0, .ref (a0 o0)), (1, .int p1), (2, .int (q2.1)), (3, .int (s14.1)), (4, .long (s21.1))]) [0, 1, 2, 3, 4] rfl ?_
                    exact J24
                  · rw [if_neg c26] at hbL25
                    refine r_iload_n C eX11_order_79 3 rfl rfl ?_
                    refine r_iload C eX11_order_80 5 rfl ?_
                    refine r_ishr C eX11_order_82 ?_
                    refine r_iconst C (v := 1) eX11_order_83 (by decide) ?_
                    refine r_iand C eX11_order_84 ?_
                    refine r_iconst C (v := 1) eX11_order_85 (by decide) ?_
                    obtain ⟨w27, hw27, hbL25⟩ := zbind hbL25
                    have J28 : vV x 9 0 0 (W_Mo (z_g x) a0 o0 (gMo_ints v0) (gMo_told v0) (gMo_postX v0) (gMo_postStrong v0) (gMo_atRow v0) (gMo_heights v0) (gMo_ship v0) (gMo_lines v0) (gMo_text v0) (gMo_said v0) (gMo_readTold v0) (gMo_readX v0) (gMo_readStrong v0) (gMo_readRow v0) (gMo_parting v0) (gMo_wasShip v0) (gMo_wasLines v0) (s14.2) (gMo_logRow v0) (gMo_images v0) (gMo_isKept v0)) 108 [(0, .ref (a0 o0)), (1, .int p1), (2, .int (q2.1)), (3, .int (s14.1)), (4, .long (s21.1)), (6, .int (s21.2))] [.long w27] := by
                      refine r_lstore C [(7, .long w27), (0, .ref (a0 o0)), (1, .int p1), (2, .int (q2.1)), (3, .int (s14.1)), (4, .long (s21.1)), (6, .int (s21.2))] eX11_order_108 (by decide) rfl ?_
                      refine r_lload C eX11_order_110 0 rfl ?_
                      refine r_lconst C (v := 0) eX11_order_112 (by decide) ?_
                      refine r_lcmp_lt C eX11_order_113 eX11_order_114 (fun c31 => ?_) (fun c31 => ?_)
                      · rw [if_pos c31] at hbL25
                        refine r_lload C eX11_order_137 5 rfl ?_
                        refine r_lstore C [(4, .long (s21.1)), (7, .long w27), (0, .ref (a0 o0)), (1, .int p1), (2, .int (q2.1)), (3, .int (s14.1)), (6, .int (s21.2))] eX11_order_139 (by decide) rfl ?_
                        refine r_iinc C (v := ((s21.2) + 1)) [(6, .int ((s21.2) + 1)), (4, .long (s21.1)), (7, .long w27), (0, .ref (a0 o0)), (1, .int p1), (2, .int (q2.1)), (3, .int (s14.1))] eX11_order_141 6 rfl rfl (by decide) rfl ?_
                        refine r_goto C eX11_order_144 ?_
                        refine r_sub (lv' := [(0, .ref (a0 o0)), (1, .int p1), (2, .int (q2.1)), (3, .int (s14.1)), (4, .long (s21.1)), (6, .int ((s21.2) + 1))]) [3, 4, 5, 6, 1, 0] rfl ?_
                        have hc := ihL25 ((s21.1), ((s21.2) + 1)) hbL25
                        exact hc
                      · rw [if_neg c31] at hbL25
                        refine r_lload C eX11_order_117 5 rfl ?_
                        refine r_lconst C (v := 0) eX11_order_119 (by decide) ?_
                        refine r_lcmp_lt C eX11_order_120 eX11_order_121 (fun c32 => ?_) (fun c32 => ?_)
                        · rw [if_pos c32] at hbL25
                          refine r_lload C eX11_order_132 0 rfl ?_
                          refine r_goto C eX11_order_134 ?_
                          refine r_lstore C [(4, .long w27), (7, .long w27), (0, .ref (a0 o0)), (1, .int p1), (2, .int (q2.1)), (3, .int (s14.1)), (6, .int (s21.2))] eX11_order_139 (by decide) rfl ?_
                          refine r_iinc C (v := ((s21.2) + 1)) [(6, .int ((s21.2) + 1)), (4, .long w27), (7, .long w27), (0, .ref (a0 o0)), (1, .int p1), (2, .int (q2.1)), (3, .int (s14.1))] eX11_order_141 6 rfl rfl (by decide) rfl ?_
                          refine r_goto C eX11_order_144 ?_
                          refine r_sub (lv' := [(0, .ref (a0 o0)), (1, .int p1), (2, .int (q2.1)), (3, .int (s14.1)), (4, .long w27), (6, .int ((s21.2) + 1))]) [3, 4, 5, 6, 1, 0] rfl ?_
                          have hc := ihL25 (w27, ((s21.2) + 1)) hbL25
                          exact hc
                        · rw [if_neg c32] at hbL25
                          refine r_lload C eX11_order_124 0 rfl ?_
                          refine r_lload C eX11_order_126 5 rfl ?_
                          refine r_lcmp_ge C eX11_order_128 eX11_order_129 (fun c33 => ?_) (fun c33 => ?_)
                          · rw [if_pos c33] at hbL25
                            refine r_lload C eX11_order_137 5 rfl ?_
                            refine r_lstore C [(4, .long (s21.1)), (7, .long w27), (0, .ref (a0 o0)), (1, .int p1), (2, .int (q2.1)), (3, .int (s14.1)), (6, .int (s21.2))] eX11_order_139 (by decide) rfl ?_
                            refine r_iinc C (v := ((s21.2) + 1)) [(6, .int ((s21.2) + 1)), (4, .long (s21.1)), (7, .long w27), (0, .ref (a0 o0)), (1, .int p1), (2, .int (q2.1)), (3, .int (s14.1))] eX11_order_141 6 rfl rfl (by decide) rfl ?_
                            refine r_goto C eX11_order_144 ?_
                            refine r_sub (lv' := [(0, .ref (a0 o0)), (1, .int p1), (2, .int (q2.1)), (3, .int (s14.1)), (4, .long (s21.1)), (6, .int ((s21.2) + 1))]) [3, 4, 5, 6, 1, 0] rfl ?_
                            have hc := ihL25 ((s21.1), ((s21.2) + 1)) hbL25
                            exact hc
                          · rw [if_neg c33] at hbL25
                            refine r_lload C eX11_order_132 0 rfl ?_
                            refine r_goto C eX11_order_134 ?_
                            refine r_lstore C [(4, .long w27), (7, .long w27), (0, .ref (a0 o0)), (1, .int p1), (2, .int (q2.1)), (3, .int (s14.1)), (6, .int (s21.2))] eX11_order_139 (by decide) rfl ?_
                            refine r_iinc C (v := ((s21.2) + 1)) [(6, .int ((s21.2) + 1)), (4, .long w27), (7, .long w27), (0, .ref (a0 o0)), (1, .int p1), (2, .int (q2.1)), (3, .int (s14.1))] eX11_order_141 6 rfl rfl (by decide) rfl ?_
                            refine r_goto C eX11_order_144 ?_
                            refine r_sub (lv' := [(0, .ref (a0 o0)), (1, .int p1), (2, .int (q2.1)), (3, .int (s14.1)), (4, .long w27), (6, .int ((s21.2) + 1))]) [3, 4, 5, 6, 1, 0] rfl ?_
                            have hc := ihL25 (w27, ((s21.2) + 1)) hbL25
                            exact hc
                    refine r_icmp_ne C eX11_order_86 (fun c29 => ?_) (fun c29 => ?_)
                    · rw [if_neg c29] at hw27
                      refine r_ldc2 C (v := (-1)) eX11_order_105 q1537 ?_
                      obtain rfl := Option.some.inj hw27
                      exact J28 
                    · rw [if_pos c29] at hw27
                      refine r_aload_n C eX11_order_89 0 rfl rfl ?_
                      refine r_get (v := .ref (a0 (o0 + 16))) C eX11_order_90 FX11_60 0 rfl rfl ?_
                      refine r_iload_n C eX11_order_93 3 rfl rfl ?_
                      refine r_iconst C (v := 1) eX11_order_94 (by decide) ?_
                      refine r_iload C eX11_order_95 5 rfl ?_
                      refine r_ishl C eX11_order_97 ?_
                      refine r_iconst C (v := (-1)) eX11_order_98 (by decide) ?_
                      refine r_ixor C eX11_order_99 ?_
                      refine r_iand C eX11_order_100 ?_
                      obtain ⟨hb30, hw27⟩ := zchk hw27
                      refine r_lald C eX11_order_101 16 rfl (inb_in hb30) ((s14.2) (ix ((s14.1) &&& ((1 <<< ((s21.2) &&& 31)) ^^^ (-1))))) rfl ?_
                      refine r_goto C eX11_order_102 ?_
                      obtain rfl := Option.some.inj hw27
                      exact J28 
              refine r_sub (lv' := [(0, .ref (a0 o0)), (1, .int p1), (2, .int (q2.1)), (3, .int (s14.1)), (4, .long (-1)), (6, .int 0)]) [2, 3, 4, 5, 1, 0] rfl ?_
              have hc := L25 LF ((-1), 0) h23
              exact hc
      refine r_sub (lv' := [(0, .ref (a0 o0)), (1, .int p1), (2, .int (q2.1)), (3, .int 1)]) [1, 2, 3, 0] rfl ?_
      have hc := L18 LF (1, (vp_updL (gMo_worst v0) 0 0)) h16
      exact hc
    · rw [if_pos c13] at hf
      refine r_ldc_w C (v := (-1000000003)) eX11_order_38 q1407 ?_
      obtain rfl := Option.some.inj (show some (((-1000000003), (gMo_worst v0)) : Int32 × (Nat → Int64)) = some _ from hf)
      exact hret _ _ _ eX11_order_41
  have L5 : ∀ (nL5 : Nat) (s1 : Int32 × Int32), lp (fB_Mo_order_4 v0) nL5 s1 = some q2 → vV x 9 0 0 (W_Mo (z_g x) a0 o0 (gMo_ints v0) (gMo_told v0) (gMo_postX v0) (gMo_postStrong v0) (gMo_atRow v0) (gMo_heights v0) (gMo_ship v0) (gMo_lines v0) (gMo_text v0) (gMo_said v0) (gMo_readTold v0) (gMo_readX v0) (gMo_readStrong v0) (gMo_readRow v0) (gMo_parting v0) (gMo_wasShip v0) (gMo_wasLines v0) (gMo_worst v0) (gMo_logRow v0) (gMo_images v0) (gMo_isKept v0)) 4 [(0, .ref (a0 o0)), (1, .int p1), (2, .int (s1.1)), (3, .int (s1.2))] [] := by
    intro nL5
    induction nL5 with
    | zero => intro s1 hq; cases hq
    | succ nL5 ihL5 =>
      intro s1 hbL5
      rw [lp_succ, fB_Mo_order_4] at hbL5
      refine r_iload_n C eX11_order_4 3 rfl rfl ?_
      refine r_bipush C (v := 6) eX11_order_5 (by decide) ?_
      refine r_icmp_ge C eX11_order_7 (fun c6 => ?_) (fun c6 => ?_)
      · rw [if_pos c6] at hbL5
        obtain rfl := Option.some.inj hbL5
        refine r_sub (lv' := [(0, .ref (a0 o0)), (1, .int p1), (2, .int (s1.1))]) [0, 1, 2] rfl ?_
        exact J4
      · rw [if_neg c6] at hbL5
        refine r_iload_n C eX11_order_10 2 rfl rfl ?_
        refine r_aload_n C eX11_order_11 0 rfl rfl ?_
        refine r_iload_n C eX11_order_12 3 rfl rfl ?_
        obtain ⟨r7, hr7, hbL5⟩ := zbind hbL5
        refine r_V_z (ws' := W_Mo (z_g x) a0 o0 (gMo_ints v0) (gMo_told v0) (gMo_postX v0) (gMo_postStrong v0) (gMo_atRow v0) (gMo_heights v0) (gMo_ship v0) (gMo_lines v0) (gMo_text v0) (gMo_said v0) (gMo_readTold v0) (gMo_readX v0) (gMo_readStrong v0) (gMo_readRow v0) (gMo_parting v0) (gMo_wasShip v0) (gMo_wasLines v0) (gMo_worst v0) (gMo_logRow v0) (gMo_images v0) (gMo_isKept v0)) C (c_Mo_isFast (z_l x) (z_g x) a0 o0 v0 (s1.2) r7 hr7) eX11_order_13 MX11_243 ⟨0, 11, _, _, rfl, rfl, rfl⟩ [0, 1, 2, 3, 4, 5, 6, 7, 8, 9, 10, 11, 12, 13, 14, 15, 16, 17, 18, 19] rfl rfl rfl rfl [] rfl trivial 20 rfl rfl rfl rfl rfl rfl (fun zb8 => ?_)
        obtain ⟨w9, hw9, hbL5⟩ := zlet_of hbL5
        have J10 : vV x 9 0 0 (W_Mo (z_g x) a0 o0 (gMo_ints v0) (gMo_told v0) (gMo_postX v0) (gMo_postStrong v0) (gMo_atRow v0) (gMo_heights v0) (gMo_ship v0) (gMo_lines v0) (gMo_text v0) (gMo_said v0) (gMo_readTold v0) (gMo_readX v0) (gMo_readStrong v0) (gMo_readRow v0) (gMo_parting v0) (gMo_wasShip v0) (gMo_wasLines v0) (gMo_worst v0) (gMo_logRow v0) (gMo_images v0) (gMo_isKept v0)) 26 [(0, .ref (a0 o0)), (1, .int p1), (3, .int (s1.2))] [.int w9, .int (s1.1)] := by
          refine r_ior C eX11_order_26 ?_
          obtain ⟨z12, hz12, hbL5⟩ := zlet_of hbL5
          refine r_nami hz12 ?_
          refine r_istore_n C [(2, .int z12), (0, .ref (a0 o0)), (1, .int p1), (3, .int (s1.2))] eX11_order_27 rfl (by decide) rfl ?_
          refine r_iinc C (v := ((s1.2) + 1)) [(3, .int ((s1.2) + 1)), (2, .int z12), (0, .ref (a0 o0)), (1, .int p1)] eX11_order_28 3 rfl rfl (by decide) rfl ?_
          refine r_goto C eX11_order_31 ?_
          refine r_sub (lv' := [(0, .ref (a0 o0)), (1, .int p1), (2, .int z12), (3, .int ((s1.2) + 1))]) [2, 3, 1, 0] rfl ?_
          have hc := ihL5 (z12, ((s1.2) + 1)) hbL5
          exact hc
        refine r_if_eq C eX11_order_16 (fun c11 => ?_) (fun c11 => ?_)
        · rw [if_pos c11] at hw9
          refine r_iconst C (v := 0) eX11_order_25 (by decide) ?_
          subst hw9
          refine r_sub (lv' := [(0, .ref (a0 o0)), (1, .int p1), (3, .int (s1.2))]) [0, 1, 3] rfl ?_
          exact J10 
        · rw [if_neg c11] at hw9
          refine r_iconst C (v := 1) eX11_order_19 (by decide) ?_
          refine r_iload_n C eX11_order_20 3 rfl rfl ?_
          refine r_ishl C eX11_order_21 ?_
          refine r_goto C eX11_order_22 ?_
          subst hw9
          refine r_sub (lv' := [(0, .ref (a0 o0)), (1, .int p1), (3, .int (s1.2))]) [0, 1, 3] rfl ?_
          exact J10 
  refine r_sub (lv' := [(0, .ref (a0 o0)), (1, .int p1), (2, .int 0), (3, .int 0)]) [2, 3, 1, 0] rfl ?_
  have hc := L5 LF (0, 0) h3
  exact hc
theorem eX11_readWord_0 : zd 1 cX11_readWord 0 1 (.aload_n 0) := ⟨by decide +kernel, rfl⟩
theorem eX11_readWord_1 : zd 3 cX11_readWord 1 4 (.invokevirtual 100) := ⟨by decide +kernel, rfl⟩
theorem eX11_readWord_4 : zd 1 cX11_readWord 4 5 (.istore_n 1) := ⟨by decide +kernel, rfl⟩
theorem eX11_readWord_5 : zd 1 cX11_readWord 5 6 (.aload_n 0) := ⟨by decide +kernel, rfl⟩
theorem eX11_readWord_6 : zd 1 cX11_readWord 6 7 (.lconst 0) := ⟨by decide +kernel, rfl⟩
theorem eX11_readWord_7 : zd 3 cX11_readWord 7 10 (.putfield 104) := ⟨by decide +kernel, rfl⟩
theorem eX11_readWord_10 : zd 1 cX11_readWord 10 11 (.aload_n 0) := ⟨by decide +kernel, rfl⟩
theorem eX11_readWord_11 : zd 1 cX11_readWord 11 12 (.aload_n 0) := ⟨by decide +kernel, rfl⟩
theorem eX11_readWord_12 : zd 3 cX11_readWord 12 15 (.getfield 97) := ⟨by decide +kernel, rfl⟩
theorem eX11_readWord_15 : zd 3 cX11_readWord 15 18 (.putfield 108) := ⟨by decide +kernel, rfl⟩
theorem eX11_readWord_18 : zd 1 cX11_readWord 18 19 (.aload_n 0) := ⟨by decide +kernel, rfl⟩
theorem eX11_readWord_19 : zd 3 cX11_readWord 19 22 (.getfield 108) := ⟨by decide +kernel, rfl⟩
theorem eX11_readWord_22 : zd 1 cX11_readWord 22 23 (.aload_n 0) := ⟨by decide +kernel, rfl⟩
theorem eX11_readWord_23 : zd 3 cX11_readWord 23 26 (.getfield 91) := ⟨by decide +kernel, rfl⟩
theorem eX11_readWord_26 : zdi cX11_readWord 26 29 108 (.if_icmp .ge) := ⟨82, by decide +kernel, rfl, by decide⟩
theorem eX11_readWord_29 : zd 1 cX11_readWord 29 30 (.aload_n 0) := ⟨by decide +kernel, rfl⟩
theorem eX11_readWord_30 : zd 3 cX11_readWord 30 33 (.getfield 32) := ⟨by decide +kernel, rfl⟩
theorem eX11_readWord_33 : zd 1 cX11_readWord 33 34 (.aload_n 0) := ⟨by decide +kernel, rfl⟩
theorem eX11_readWord_34 : zd 3 cX11_readWord 34 37 (.getfield 108) := ⟨by decide +kernel, rfl⟩
theorem eX11_readWord_37 : zd 1 cX11_readWord 37 38 (.iaload) := ⟨by decide +kernel, rfl⟩
theorem eX11_readWord_38 : zd 1 cX11_readWord 38 39 (.i2l) := ⟨by decide +kernel, rfl⟩
theorem eX11_readWord_39 : zd 3 cX11_readWord 39 42 (.ldc2_w 111) := ⟨by decide +kernel, rfl⟩
theorem eX11_readWord_42 : zd 3 cX11_readWord 42 45 (.ldc2_w 113) := ⟨by decide +kernel, rfl⟩
theorem eX11_readWord_45 : zd 3 cX11_readWord 45 48 (.invokestatic 86) := ⟨by decide +kernel, rfl⟩
theorem eX11_readWord_48 : zdi cX11_readWord 48 51 108 (.ifCond .eq) := ⟨60, by decide +kernel, rfl, by decide⟩
theorem eX11_readWord_51 : zd 1 cX11_readWord 51 52 (.aload_n 0) := ⟨by decide +kernel, rfl⟩
theorem eX11_readWord_52 : zd 1 cX11_readWord 52 53 (.aload_n 0) := ⟨by decide +kernel, rfl⟩
theorem eX11_readWord_53 : zd 3 cX11_readWord 53 56 (.getfield 104) := ⟨by decide +kernel, rfl⟩
theorem eX11_readWord_56 : zd 3 cX11_readWord 56 59 (.ldc2_w 115) := ⟨by decide +kernel, rfl⟩
theorem eX11_readWord_59 : zd 1 cX11_readWord 59 60 (.lcmp) := ⟨by decide +kernel, rfl⟩
theorem eX11_readWord_60 : zdi cX11_readWord 60 63 69 (.ifCond .le) := ⟨9, by decide +kernel, rfl, by decide⟩
theorem eX11_readWord_63 : zd 3 cX11_readWord 63 66 (.ldc2_w 117) := ⟨by decide +kernel, rfl⟩
theorem eX11_readWord_66 : zdi cX11_readWord 66 69 92 (.goto) := ⟨26, by decide +kernel, rfl, by decide⟩
theorem eX11_readWord_69 : zd 3 cX11_readWord 69 72 (.ldc2_w 119) := ⟨by decide +kernel, rfl⟩
theorem eX11_readWord_72 : zd 1 cX11_readWord 72 73 (.aload_n 0) := ⟨by decide +kernel, rfl⟩
theorem eX11_readWord_73 : zd 3 cX11_readWord 73 76 (.getfield 104) := ⟨by decide +kernel, rfl⟩
theorem eX11_readWord_76 : zd 1 cX11_readWord 76 77 (.lmul) := ⟨by decide +kernel, rfl⟩
theorem eX11_readWord_77 : zd 1 cX11_readWord 77 78 (.aload_n 0) := ⟨by decide +kernel, rfl⟩
theorem eX11_readWord_78 : zd 3 cX11_readWord 78 81 (.getfield 32) := ⟨by decide +kernel, rfl⟩
theorem eX11_readWord_81 : zd 1 cX11_readWord 81 82 (.aload_n 0) := ⟨by decide +kernel, rfl⟩
theorem eX11_readWord_82 : zd 3 cX11_readWord 82 85 (.getfield 108) := ⟨by decide +kernel, rfl⟩
theorem eX11_readWord_85 : zd 1 cX11_readWord 85 86 (.iaload) := ⟨by decide +kernel, rfl⟩
theorem eX11_readWord_86 : zd 1 cX11_readWord 86 87 (.i2l) := ⟨by decide +kernel, rfl⟩
theorem eX11_readWord_87 : zd 1 cX11_readWord 87 88 (.ladd) := ⟨by decide +kernel, rfl⟩
theorem eX11_readWord_88 : zd 3 cX11_readWord 88 91 (.ldc2_w 121) := ⟨by decide +kernel, rfl⟩
theorem eX11_readWord_91 : zd 1 cX11_readWord 91 92 (.lsub) := ⟨by decide +kernel, rfl⟩
theorem eX11_readWord_92 : zd 3 cX11_readWord 92 95 (.putfield 104) := ⟨by decide +kernel, rfl⟩
theorem eX11_readWord_95 : zd 1 cX11_readWord 95 96 (.aload_n 0) := ⟨by decide +kernel, rfl⟩
theorem eX11_readWord_96 : zd 1 cX11_readWord 96 97 (.dup) := ⟨by decide +kernel, rfl⟩
theorem eX11_readWord_97 : zd 3 cX11_readWord 97 100 (.getfield 108) := ⟨by decide +kernel, rfl⟩
theorem eX11_readWord_100 : zd 1 cX11_readWord 100 101 (.iconst 1) := ⟨by decide +kernel, rfl⟩
theorem eX11_readWord_101 : zd 1 cX11_readWord 101 102 (.iadd) := ⟨by decide +kernel, rfl⟩
theorem eX11_readWord_102 : zd 3 cX11_readWord 102 105 (.putfield 108) := ⟨by decide +kernel, rfl⟩
theorem eX11_readWord_105 : zdi cX11_readWord 105 108 18 (.goto) := ⟨(-87), by decide +kernel, rfl, by decide⟩
theorem eX11_readWord_108 : zd 1 cX11_readWord 108 109 (.return_) := ⟨by decide +kernel, rfl⟩
theorem FX11_108 : zlF RX11 108 11 15 := ⟨(RX11, TX11, 34), rfl, by decide, q1086, zin11⟩
theorem PX11_104 : zlP RX11 104 11 14 .long := ⟨(RX11, TX11, 34), tyX11, rfl, by decide, q1085, zin11, tyX11_ok, nmX11, rfl, by decide +kernel⟩
theorem PX11_108 : zlP RX11 108 11 15 .int := ⟨(RX11, TX11, 34), tyX11, rfl, by decide, q1086, zin11, tyX11_ok, nmX11, rfl, by decide +kernel⟩
theorem MX11_100 : zlV RX11 100 yX11_here cX11_here 1 ((Option.some FieldType.int)) 0 := ⟨q1190, q1192, qs26, q12, q1193, by decide, by decide, by decide +kernel⟩
noncomputable def fB_Mo_readWord_18 (v0 : tMo) (ih : ((Nat → Int32) × Int64) → Option ((Nat → Int32) × Int64)) (s2 : (Nat → Int32) × Int64) : Option ((Nat → Int32) × Int64) := (if ((s2.1) 11) ≤ ((s2.1) 15) then (some ((s2.1), (s2.2))) else (if inb ((s2.1) 15) 300 = true then (if (f_Mo_in ((gMo_text v0) (ix ((s2.1) 15))).toInt64 97 122) = 0 then (some ((s2.1), (s2.2))) else (Option.bind (if (s2.2) ≤ 1000000000000 then (if inb ((s2.1) 15) 300 = true then (some (((27 * (s2.2)) + ((gMo_text v0) (ix ((s2.1) 15))).toInt64) - 96)) else none) else (some 2000000000000)) (fun (w11 : Int64) => (zlet (((s2.1) 15) + 1) (fun (z15 : Int32) => (ih ((upd (s2.1) 15 z15), w11))))))) else none))
noncomputable def f_Mo_readWord (v0 : tMo)  : Option ((Nat → Int32) × Int64) := (Option.bind (f_Mo_here v0) (fun (r1 : Int32 × (Nat → Int32)) => (Option.bind (lp (fB_Mo_readWord_18 v0) LF ((upd (r1.2) 15 ((r1.2) 13)), 0)) (fun (q3 : (Nat → Int32) × Int64) => (some ((q3.1), (q3.2)))))))
abbrev rm_Mo_readWord : Room := { frames := 1, cells := 0, slots := 0, locals := 25 }
set_option maxHeartbeats 4000000 in
set_option maxRecDepth 100000 in
theorem c_Mo_readWord (l : Launch) (g : zGl) (a0 : Nat → Nat) (o0 : Nat) (v0 : tMo)  (out : (Nat → Int32) × Int64) (hf : f_Mo_readWord v0 = some out) : zMv l yX11_readWord cX11_readWord 2 rm_Mo_readWord g [.ref (a0 o0)] (W_Mo g a0 o0 (gMo_ints v0) (gMo_told v0) (gMo_postX v0) (gMo_postStrong v0) (gMo_atRow v0) (gMo_heights v0) (gMo_ship v0) (gMo_lines v0) (gMo_text v0) (gMo_said v0) (gMo_readTold v0) (gMo_readX v0) (gMo_readStrong v0) (gMo_readRow v0) (gMo_parting v0) (gMo_wasShip v0) (gMo_wasLines v0) (gMo_worst v0) (gMo_logRow v0) (gMo_images v0) (gMo_isKept v0))  (W_Mo g a0 o0 (out.1) (gMo_told v0) (gMo_postX v0) (gMo_postStrong v0) (gMo_atRow v0) (gMo_heights v0) (gMo_ship v0) (gMo_lines v0) (gMo_text v0) (out.2) (gMo_readTold v0) (gMo_readX v0) (gMo_readStrong v0) (gMo_readRow v0) (gMo_parting v0) (gMo_wasShip v0) (gMo_wasLines v0) (gMo_worst v0) (gMo_logRow v0) (gMo_images v0) (gMo_isKept v0)) := by
  refine zMv_of (lv := [(0, .ref (a0 o0))]) (by decide) (Nat.le_of_ble_eq_true rfl) rfl (fun x hl hg C hret => ?_)
  subst hl; subst hg
  rw [f_Mo_readWord] at hf
  refine r_aload_n C eX11_readWord_0 0 rfl rfl ?_
  obtain ⟨r1, hr1, hf⟩ := zbind hf
  refine r_V_i (ws' := W_Mo (z_g x) a0 o0 (r1.2) (gMo_told v0) (gMo_postX v0) (gMo_postStrong v0) (gMo_atRow v0) (gMo_heights v0) (gMo_ship v0) (gMo_lines v0) (gMo_text v0) (gMo_said v0) (gMo_readTold v0) (gMo_readX v0) (gMo_readStrong v0) (gMo_readRow v0) (gMo_parting v0) (gMo_wasShip v0) (gMo_wasLines v0) (gMo_worst v0) (gMo_logRow v0) (gMo_images v0) (gMo_isKept v0)) C (c_Mo_here (z_l x) (z_g x) a0 o0 v0  r1 hr1) eX11_readWord_1 MX11_100 ⟨0, 11, _, _, rfl, rfl, rfl⟩ [0, 1, 2, 3, 4, 5, 6, 7, 8, 9, 10, 11, 12, 13, 14, 15, 16, 17, 18, 19] rfl rfl rfl rfl [] rfl trivial 20 rfl rfl rfl rfl rfl rfl ?_
  refine r_istore_n C [(1, .int (r1.1)), (0, .ref (a0 o0))] eX11_readWord_4 rfl (by decide) rfl ?_
  refine r_aload_n C eX11_readWord_5 1 rfl rfl ?_
  refine r_lconst C (v := 0) eX11_readWord_6 (by decide) ?_
  refine r_put (ws' := W_Mo (z_g x) a0 o0 (r1.2) (gMo_told v0) (gMo_postX v0) (gMo_postStrong v0) (gMo_atRow v0) (gMo_heights v0) (gMo_ship v0) (gMo_lines v0) (gMo_text v0) 0 (gMo_readTold v0) (gMo_readX v0) (gMo_readStrong v0) (gMo_readRow v0) (gMo_parting v0) (gMo_wasShip v0) (gMo_wasLines v0) (gMo_worst v0) (gMo_logRow v0) (gMo_images v0) (gMo_isKept v0)) C eX11_readWord_7 PX11_104 0 rfl rfl rfl (Nat.le_of_ble_eq_true rfl) rfl ?_
  refine r_aload_n C eX11_readWord_10 1 rfl rfl ?_
  refine r_aload_n C eX11_readWord_11 1 rfl rfl ?_
  refine r_get (v := .int ((r1.2) 13)) C eX11_readWord_12 FX11_97 0 rfl rfl ?_
  refine r_put (ws' := W_Mo (z_g x) a0 o0 (upd (r1.2) 15 ((r1.2) 13)) (gMo_told v0) (gMo_postX v0) (gMo_postStrong v0) (gMo_atRow v0) (gMo_heights v0) (gMo_ship v0) (gMo_lines v0) (gMo_text v0) 0 (gMo_readTold v0) (gMo_readX v0) (gMo_readStrong v0) (gMo_readRow v0) (gMo_parting v0) (gMo_wasShip v0) (gMo_wasLines v0) (gMo_worst v0) (gMo_logRow v0) (gMo_images v0) (gMo_isKept v0)) C eX11_readWord_15 PX11_108 0 rfl rfl rfl (Nat.le_of_ble_eq_true rfl) rfl ?_
  obtain ⟨q3, h4, hf⟩ := zbind hf
  have J5 : vV x 2 0 0 (W_Mo (z_g x) a0 o0 (q3.1) (gMo_told v0) (gMo_postX v0) (gMo_postStrong v0) (gMo_atRow v0) (gMo_heights v0) (gMo_ship v0) (gMo_lines v0) (gMo_text v0) (q3.2) (gMo_readTold v0) (gMo_readX v0) (gMo_readStrong v0) (gMo_readRow v0) (gMo_parting v0) (gMo_wasShip v0) (gMo_wasLines v0) (gMo_worst v0) (gMo_logRow v0) (gMo_images v0) (gMo_isKept v0)) 108 [] [] := by
    obtain rfl := Option.some.inj (show some (((q3.1), (q3.2)) : (Nat → Int32) × Int64) = some _ from hf)
    exact hret _ _ _ eX11_readWord_108
  have L6 : ∀ (nL6 : Nat) (s2 : (Nat → Int32) × Int64), lp (fB_Mo_readWord_18 v0) nL6 s2 = some q3 → vV x 2 0 0 (W_Mo (z_g x) a0 o0 (s2.1) (gMo_told v0) (gMo_postX v0) (gMo_postStrong v0) (gMo_atRow v0) (gMo_heights v0) (gMo_ship v0) (gMo_lines v0) (gMo_text v0) (s2.2) (gMo_readTold v0) (gMo_readX v0) (gMo_readStrong v0) (gMo_readRow v0) (gMo_parting v0) (gMo_wasShip v0) (gMo_wasLines v0) (gMo_worst v0) (gMo_logRow v0) (gMo_images v0) (gMo_isKept v0)) 18 [(0, .ref (a0 o0))] [] := by
    intro nL6
    induction nL6 with
    | zero => intro s2 hq; cases hq
    | succ nL6 ihL6 =>
      intro s2 hbL6
      rw [lp_succ, fB_Mo_readWord_18] at hbL6
      refine r_aload_n C eX11_readWord_18 0 rfl rfl ?_
      refine r_get (v := .int ((s2.1) 15)) C eX11_readWord_19 FX11_108 0 rfl rfl ?_
      refine r_aload_n C eX11_readWord_22 0 rfl rfl ?_
      refine r_get (v := .int ((s2.1) 11)) C eX11_readWord_23 FX11_91 0 rfl rfl ?_
      refine r_icmp_ge C eX11_readWord_26 (fun c7 => ?_) (fun c7 => ?_)
      · rw [if_pos c7] at hbL6
        obtain rfl := Option.some.inj hbL6
        refine r_sub (lv' := []) [] rfl ?_
        exact J5
      · rw [if_neg c7] at hbL6
        refine r_aload_n C eX11_readWord_29 0 rfl rfl ?_
        refine r_get (v := .ref (a0 (o0 + 8))) C eX11_readWord_30 FX11_32 0 rfl rfl ?_
        refine r_aload_n C eX11_readWord_33 0 rfl rfl ?_
        refine r_get (v := .int ((s2.1) 15)) C eX11_readWord_34 FX11_108 0 rfl rfl ?_
        obtain ⟨hb8, hbL6⟩ := zchk hbL6
        refine r_iald C eX11_readWord_37 8 rfl (inb_in hb8) ((gMo_text v0) (ix ((s2.1) 15))) rfl ?_
        refine r_i2l C eX11_readWord_38 ?_
        refine r_ldc2 C (v := 97) eX11_readWord_39 q1202 ?_
        refine r_ldc2 C (v := 122) eX11_readWord_42 q1203 ?_
        refine r_S_z (ws' := W_Mo (z_g x) a0 o0 (s2.1) (gMo_told v0) (gMo_postX v0) (gMo_postStrong v0) (gMo_atRow v0) (gMo_heights v0) (gMo_ship v0) (gMo_lines v0) (gMo_text v0) (s2.2) (gMo_readTold v0) (gMo_readX v0) (gMo_readStrong v0) (gMo_readRow v0) (gMo_parting v0) (gMo_wasShip v0) (gMo_wasLines v0) (gMo_worst v0) (gMo_logRow v0) (gMo_images v0) (gMo_isKept v0)) C (c_Mo_in (z_l x) (z_g x)  ((gMo_text v0) (ix ((s2.1) 15))).toInt64 97 122 _ rfl) eX11_readWord_45 MX11_86 [] rfl rfl rfl rfl [0, 1, 2, 3, 4, 5, 6, 7, 8, 9, 10, 11, 12, 13, 14, 15, 16, 17, 18, 19] rfl ⟨rfl, rfl, rfl, rfl, rfl, rfl, rfl, rfl, rfl, rfl, rfl, rfl, rfl, rfl, rfl, rfl, rfl, rfl, rfl, rfl, trivial⟩ 20 rfl rfl rfl rfl rfl rfl (fun zb9 => ?_)
        refine r_if_eq C eX11_readWord_48 (fun c10 => ?_) (fun c10 => ?_)
        · rw [if_pos c10] at hbL6
          obtain rfl := Option.some.inj hbL6
          refine r_sub (lv' := []) [] rfl ?_
          exact J5
        · rw [if_neg c10] at hbL6
          refine r_aload_n C eX11_readWord_51 0 rfl rfl ?_
          refine r_aload_n C eX11_readWord_52 0 rfl rfl ?_
          refine r_get (v := .long (s2.2)) C eX11_readWord_53 FX11_104 0 rfl rfl ?_
          refine r_ldc2 C (v := 1000000000000) eX11_readWord_56 q1204 ?_
          obtain ⟨w11, hw11, hbL6⟩ := zbind hbL6
          have J12 : vV x 2 0 0 (W_Mo (z_g x) a0 o0 (s2.1) (gMo_told v0) (gMo_postX v0) (gMo_postStrong v0) (gMo_atRow v0) (gMo_heights v0) (gMo_ship v0) (gMo_lines v0) (gMo_text v0) (s2.2) (gMo_readTold v0) (gMo_readX v0) (gMo_readStrong v0) (gMo_readRow v0) (gMo_parting v0) (gMo_wasShip v0) (gMo_wasLines v0) (gMo_worst v0) (gMo_logRow v0) (gMo_images v0) (gMo_isKept v0)) 92 [(0, .ref (a0 o0))] [.long w11, .ref (a0 o0)] := by
            refine r_put (ws' := W_Mo (z_g x) a0 o0 (s2.1) (gMo_told v0) (gMo_postX v0) (gMo_postStrong v0) (gMo_atRow v0) (gMo_heights v0) (gMo_ship v0) (gMo_lines v0) (gMo_text v0) w11 (gMo_readTold v0) (gMo_readX v0) (gMo_readStrong v0) (gMo_readRow v0) (gMo_parting v0) (gMo_wasShip v0) (gMo_wasLines v0) (gMo_worst v0) (gMo_logRow v0) (gMo_images v0) (gMo_isKept v0)) C eX11_readWord_92 PX11_104 0 rfl rfl rfl (Nat.le_of_ble_eq_true rfl) rfl ?_
            refine r_aload_n C eX11_readWord_95 0 rfl rfl ?_
            refine r_dup C eX11_readWord_96 rfl ?_
            refine r_get (v := .int ((s2.1) 15)) C eX11_readWord_97 FX11_108 0 rfl rfl ?_
            refine r_iconst C (v := 1) eX11_readWord_100 (by decide) ?_
            refine r_iadd C eX11_readWord_101 ?_
            obtain ⟨z15, hz15, hbL6⟩ := zlet_of hbL6
            refine r_nami hz15 ?_
            refine r_put (ws' := W_Mo (z_g x) a0 o0 (upd (s2.1) 15 z15) (gMo_told v0) (gMo_postX v0) (gMo_postStrong v0) (gMo_atRow v0) (gMo_heights v0) (gMo_ship v0) (gMo_lines v0) (gMo_text v0) w11 (gMo_readTold v0) (gMo_readX v0) (gMo_readStrong v0) (gMo_readRow v0) (gMo_parting v0) (gMo_wasShip v0) (gMo_wasLines v0) (gMo_worst v0) (gMo_logRow v0) (gMo_images v0) (gMo_isKept v0)) C eX11_readWord_102 PX11_108 0 rfl rfl rfl (Nat.le_of_ble_eq_true rfl) rfl ?_
            refine r_goto C eX11_readWord_105 ?_
            have hc := ihL6 ((upd (s2.1) 15 z15), w11) hbL6
            exact hc
          refine r_lcmp_le C eX11_readWord_59 eX11_readWord_60 (fun c13 => ?_) (fun c13 => ?_)
          · rw [if_pos c13] at hw11
            refine r_ldc2 C (v := 27) eX11_readWord_69 q1206 ?_
            refine r_aload_n C eX11_readWord_72 0 rfl rfl ?_
            refine r_get (v := .long (s2.2)) C eX11_readWord_73 FX11_104 0 rfl rfl ?_
            refine r_lmul C eX11_readWord_76 ?_
            refine r_aload_n C eX11_readWord_77 0 rfl rfl ?_
            refine r_get (v := .ref (a0 (o0 + 8))) C eX11_readWord_78 FX11_32 0 rfl rfl ?_
            refine r_aload_n C eX11_readWord_81 0 rfl rfl ?_
            refine r_get (v := .int ((s2.1) 15)) C eX11_readWord_82 FX11_108 0 rfl rfl ?_
            obtain ⟨hb14, hw11⟩ := zchk hw11
            refine r_iald C eX11_readWord_85 8 rfl (inb_in hb14) ((gMo_text v0) (ix ((s2.1) 15))) rfl ?_
            refine r_i2l C eX11_readWord_86 ?_
            refine r_ladd C eX11_readWord_87 ?_
            refine r_ldc2 C (v := 96) eX11_readWord_88 q1207 ?_
            refine r_lsub C eX11_readWord_91 ?_
            obtain rfl := Option.some.inj hw11
            exact J12 
          · rw [if_neg c13] at hw11
            refine r_ldc2 C (v := 2000000000000) eX11_readWord_63 q1205 ?_
            refine r_goto C eX11_readWord_66 ?_
            obtain rfl := Option.some.inj hw11
            exact J12 
  refine r_sub (lv' := [(0, .ref (a0 o0))]) [1] rfl ?_
  have hc := L6 LF ((upd (r1.2) 15 ((r1.2) 13)), 0) h4
  exact hc
theorem eX11_takeNumber_0 : zd 1 cX11_takeNumber 0 1 (.aload_n 0) := ⟨by decide +kernel, rfl⟩
theorem eX11_takeNumber_1 : zd 3 cX11_takeNumber 1 4 (.invokevirtual 100) := ⟨by decide +kernel, rfl⟩
theorem eX11_takeNumber_4 : zd 1 cX11_takeNumber 4 5 (.istore_n 3) := ⟨by decide +kernel, rfl⟩
theorem eX11_takeNumber_5 : zd 1 cX11_takeNumber 5 6 (.iload_n 3) := ⟨by decide +kernel, rfl⟩
theorem eX11_takeNumber_6 : zd 1 cX11_takeNumber 6 7 (.i2l) := ⟨by decide +kernel, rfl⟩
theorem eX11_takeNumber_7 : zd 3 cX11_takeNumber 7 10 (.ldc2_w 123) := ⟨by decide +kernel, rfl⟩
theorem eX11_takeNumber_10 : zd 3 cX11_takeNumber 10 13 (.ldc2_w 125) := ⟨by decide +kernel, rfl⟩
theorem eX11_takeNumber_13 : zd 3 cX11_takeNumber 13 16 (.invokestatic 86) := ⟨by decide +kernel, rfl⟩
theorem eX11_takeNumber_16 : zdi cX11_takeNumber 16 19 29 (.ifCond .ne) := ⟨13, by decide +kernel, rfl, by decide⟩
theorem eX11_takeNumber_19 : zd 1 cX11_takeNumber 19 20 (.aload_n 0) := ⟨by decide +kernel, rfl⟩
theorem eX11_takeNumber_20 : zd 1 cX11_takeNumber 20 21 (.iconst 1) := ⟨by decide +kernel, rfl⟩
theorem eX11_takeNumber_21 : zd 1 cX11_takeNumber 21 22 (.aload_n 0) := ⟨by decide +kernel, rfl⟩
theorem eX11_takeNumber_22 : zd 3 cX11_takeNumber 22 25 (.getfield 97) := ⟨by decide +kernel, rfl⟩
theorem eX11_takeNumber_25 : zd 3 cX11_takeNumber 25 28 (.invokevirtual 127) := ⟨by decide +kernel, rfl⟩
theorem eX11_takeNumber_28 : zd 1 cX11_takeNumber 28 29 (.ireturn) := ⟨by decide +kernel, rfl⟩
theorem eX11_takeNumber_29 : zd 1 cX11_takeNumber 29 30 (.aload_n 0) := ⟨by decide +kernel, rfl⟩
theorem eX11_takeNumber_30 : zd 1 cX11_takeNumber 30 31 (.aload_n 0) := ⟨by decide +kernel, rfl⟩
theorem eX11_takeNumber_31 : zd 3 cX11_takeNumber 31 34 (.getfield 97) := ⟨by decide +kernel, rfl⟩
theorem eX11_takeNumber_34 : zd 3 cX11_takeNumber 34 37 (.putfield 131) := ⟨by decide +kernel, rfl⟩
theorem eX11_takeNumber_37 : zd 1 cX11_takeNumber 37 38 (.aload_n 0) := ⟨by decide +kernel, rfl⟩
theorem eX11_takeNumber_38 : zd 1 cX11_takeNumber 38 39 (.iconst 0) := ⟨by decide +kernel, rfl⟩
theorem eX11_takeNumber_39 : zd 3 cX11_takeNumber 39 42 (.putfield 134) := ⟨by decide +kernel, rfl⟩
theorem eX11_takeNumber_42 : zd 1 cX11_takeNumber 42 43 (.aload_n 0) := ⟨by decide +kernel, rfl⟩
theorem eX11_takeNumber_43 : zd 3 cX11_takeNumber 43 46 (.getfield 97) := ⟨by decide +kernel, rfl⟩
theorem eX11_takeNumber_46 : zd 1 cX11_takeNumber 46 47 (.aload_n 0) := ⟨by decide +kernel, rfl⟩
theorem eX11_takeNumber_47 : zd 3 cX11_takeNumber 47 50 (.getfield 91) := ⟨by decide +kernel, rfl⟩
theorem eX11_takeNumber_50 : zdi cX11_takeNumber 50 53 128 (.if_icmp .ge) := ⟨78, by decide +kernel, rfl, by decide⟩
theorem eX11_takeNumber_53 : zd 1 cX11_takeNumber 53 54 (.aload_n 0) := ⟨by decide +kernel, rfl⟩
theorem eX11_takeNumber_54 : zd 3 cX11_takeNumber 54 57 (.getfield 32) := ⟨by decide +kernel, rfl⟩
theorem eX11_takeNumber_57 : zd 1 cX11_takeNumber 57 58 (.aload_n 0) := ⟨by decide +kernel, rfl⟩
theorem eX11_takeNumber_58 : zd 3 cX11_takeNumber 58 61 (.getfield 97) := ⟨by decide +kernel, rfl⟩
theorem eX11_takeNumber_61 : zd 1 cX11_takeNumber 61 62 (.iaload) := ⟨by decide +kernel, rfl⟩
theorem eX11_takeNumber_62 : zd 1 cX11_takeNumber 62 63 (.i2l) := ⟨by decide +kernel, rfl⟩
theorem eX11_takeNumber_63 : zd 3 cX11_takeNumber 63 66 (.ldc2_w 123) := ⟨by decide +kernel, rfl⟩
theorem eX11_takeNumber_66 : zd 3 cX11_takeNumber 66 69 (.ldc2_w 125) := ⟨by decide +kernel, rfl⟩
theorem eX11_takeNumber_69 : zd 3 cX11_takeNumber 69 72 (.invokestatic 86) := ⟨by decide +kernel, rfl⟩
theorem eX11_takeNumber_72 : zdi cX11_takeNumber 72 75 128 (.ifCond .eq) := ⟨56, by decide +kernel, rfl, by decide⟩
theorem eX11_takeNumber_75 : zd 1 cX11_takeNumber 75 76 (.aload_n 0) := ⟨by decide +kernel, rfl⟩
theorem eX11_takeNumber_76 : zd 1 cX11_takeNumber 76 77 (.aload_n 0) := ⟨by decide +kernel, rfl⟩
theorem eX11_takeNumber_77 : zd 3 cX11_takeNumber 77 80 (.getfield 134) := ⟨by decide +kernel, rfl⟩
theorem eX11_takeNumber_80 : zd 2 cX11_takeNumber 80 82 (.ldc 137) := ⟨by decide +kernel, rfl⟩
theorem eX11_takeNumber_82 : zdi cX11_takeNumber 82 85 92 (.if_icmp .le) := ⟨10, by decide +kernel, rfl, by decide⟩
theorem eX11_takeNumber_85 : zd 1 cX11_takeNumber 85 86 (.aload_n 0) := ⟨by decide +kernel, rfl⟩
theorem eX11_takeNumber_86 : zd 3 cX11_takeNumber 86 89 (.getfield 134) := ⟨by decide +kernel, rfl⟩
theorem eX11_takeNumber_89 : zdi cX11_takeNumber 89 92 112 (.goto) := ⟨23, by decide +kernel, rfl, by decide⟩
theorem eX11_takeNumber_92 : zd 2 cX11_takeNumber 92 94 (.bipush 10) := ⟨by decide +kernel, rfl⟩
theorem eX11_takeNumber_94 : zd 1 cX11_takeNumber 94 95 (.aload_n 0) := ⟨by decide +kernel, rfl⟩
theorem eX11_takeNumber_95 : zd 3 cX11_takeNumber 95 98 (.getfield 134) := ⟨by decide +kernel, rfl⟩
theorem eX11_takeNumber_98 : zd 1 cX11_takeNumber 98 99 (.imul) := ⟨by decide +kernel, rfl⟩
theorem eX11_takeNumber_99 : zd 1 cX11_takeNumber 99 100 (.aload_n 0) := ⟨by decide +kernel, rfl⟩
theorem eX11_takeNumber_100 : zd 3 cX11_takeNumber 100 103 (.getfield 32) := ⟨by decide +kernel, rfl⟩
theorem eX11_takeNumber_103 : zd 1 cX11_takeNumber 103 104 (.aload_n 0) := ⟨by decide +kernel, rfl⟩
theorem eX11_takeNumber_104 : zd 3 cX11_takeNumber 104 107 (.getfield 97) := ⟨by decide +kernel, rfl⟩
theorem eX11_takeNumber_107 : zd 1 cX11_takeNumber 107 108 (.iaload) := ⟨by decide +kernel, rfl⟩
theorem eX11_takeNumber_108 : zd 1 cX11_takeNumber 108 109 (.iadd) := ⟨by decide +kernel, rfl⟩
theorem eX11_takeNumber_109 : zd 2 cX11_takeNumber 109 111 (.bipush 48) := ⟨by decide +kernel, rfl⟩
theorem eX11_takeNumber_111 : zd 1 cX11_takeNumber 111 112 (.isub) := ⟨by decide +kernel, rfl⟩
theorem eX11_takeNumber_112 : zd 3 cX11_takeNumber 112 115 (.putfield 134) := ⟨by decide +kernel, rfl⟩
theorem eX11_takeNumber_115 : zd 1 cX11_takeNumber 115 116 (.aload_n 0) := ⟨by decide +kernel, rfl⟩
theorem eX11_takeNumber_116 : zd 1 cX11_takeNumber 116 117 (.dup) := ⟨by decide +kernel, rfl⟩
theorem eX11_takeNumber_117 : zd 3 cX11_takeNumber 117 120 (.getfield 97) := ⟨by decide +kernel, rfl⟩
theorem eX11_takeNumber_120 : zd 1 cX11_takeNumber 120 121 (.iconst 1) := ⟨by decide +kernel, rfl⟩
theorem eX11_takeNumber_121 : zd 1 cX11_takeNumber 121 122 (.iadd) := ⟨by decide +kernel, rfl⟩
theorem eX11_takeNumber_122 : zd 3 cX11_takeNumber 122 125 (.putfield 97) := ⟨by decide +kernel, rfl⟩
theorem eX11_takeNumber_125 : zdi cX11_takeNumber 125 128 42 (.goto) := ⟨(-83), by decide +kernel, rfl, by decide⟩
theorem eX11_takeNumber_128 : zd 1 cX11_takeNumber 128 129 (.aload_n 0) := ⟨by decide +kernel, rfl⟩
theorem eX11_takeNumber_129 : zd 3 cX11_takeNumber 129 132 (.getfield 97) := ⟨by decide +kernel, rfl⟩
theorem eX11_takeNumber_132 : zd 1 cX11_takeNumber 132 133 (.aload_n 0) := ⟨by decide +kernel, rfl⟩
theorem eX11_takeNumber_133 : zd 3 cX11_takeNumber 133 136 (.getfield 131) := ⟨by decide +kernel, rfl⟩
theorem eX11_takeNumber_136 : zd 1 cX11_takeNumber 136 137 (.isub) := ⟨by decide +kernel, rfl⟩
theorem eX11_takeNumber_137 : zd 1 cX11_takeNumber 137 138 (.iconst 4) := ⟨by decide +kernel, rfl⟩
theorem eX11_takeNumber_138 : zdi cX11_takeNumber 138 141 156 (.if_icmp .gt) := ⟨18, by decide +kernel, rfl, by decide⟩
theorem eX11_takeNumber_141 : zd 1 cX11_takeNumber 141 142 (.aload_n 0) := ⟨by decide +kernel, rfl⟩
theorem eX11_takeNumber_142 : zd 3 cX11_takeNumber 142 145 (.getfield 134) := ⟨by decide +kernel, rfl⟩
theorem eX11_takeNumber_145 : zd 1 cX11_takeNumber 145 146 (.i2l) := ⟨by decide +kernel, rfl⟩
theorem eX11_takeNumber_146 : zd 1 cX11_takeNumber 146 147 (.iload_n 1) := ⟨by decide +kernel, rfl⟩
theorem eX11_takeNumber_147 : zd 1 cX11_takeNumber 147 148 (.i2l) := ⟨by decide +kernel, rfl⟩
theorem eX11_takeNumber_148 : zd 1 cX11_takeNumber 148 149 (.iload_n 2) := ⟨by decide +kernel, rfl⟩
theorem eX11_takeNumber_149 : zd 1 cX11_takeNumber 149 150 (.i2l) := ⟨by decide +kernel, rfl⟩
theorem eX11_takeNumber_150 : zd 3 cX11_takeNumber 150 153 (.invokestatic 86) := ⟨by decide +kernel, rfl⟩
theorem eX11_takeNumber_153 : zdi cX11_takeNumber 153 156 168 (.ifCond .ne) := ⟨15, by decide +kernel, rfl, by decide⟩
theorem eX11_takeNumber_156 : zd 1 cX11_takeNumber 156 157 (.aload_n 0) := ⟨by decide +kernel, rfl⟩
theorem eX11_takeNumber_157 : zd 1 cX11_takeNumber 157 158 (.iconst 2) := ⟨by decide +kernel, rfl⟩
theorem eX11_takeNumber_158 : zd 1 cX11_takeNumber 158 159 (.aload_n 0) := ⟨by decide +kernel, rfl⟩
theorem eX11_takeNumber_159 : zd 3 cX11_takeNumber 159 162 (.getfield 131) := ⟨by decide +kernel, rfl⟩
theorem eX11_takeNumber_162 : zd 3 cX11_takeNumber 162 165 (.invokevirtual 127) := ⟨by decide +kernel, rfl⟩
theorem eX11_takeNumber_165 : zdi cX11_takeNumber 165 168 169 (.goto) := ⟨4, by decide +kernel, rfl, by decide⟩
theorem eX11_takeNumber_168 : zd 1 cX11_takeNumber 168 169 (.iconst 0) := ⟨by decide +kernel, rfl⟩
theorem eX11_takeNumber_169 : zd 1 cX11_takeNumber 169 170 (.ireturn) := ⟨by decide +kernel, rfl⟩
theorem FX11_131 : zlF RX11 131 11 17 := ⟨(RX11, TX11, 34), rfl, by decide, q1088, zin11⟩
theorem FX11_134 : zlF RX11 134 11 16 := ⟨(RX11, TX11, 34), rfl, by decide, q1087, zin11⟩
theorem PX11_131 : zlP RX11 131 11 17 .int := ⟨(RX11, TX11, 34), tyX11, rfl, by decide, q1088, zin11, tyX11_ok, nmX11, rfl, by decide +kernel⟩
theorem PX11_134 : zlP RX11 134 11 16 .int := ⟨(RX11, TX11, 34), tyX11, rfl, by decide, q1087, zin11, tyX11_ok, nmX11, rfl, by decide +kernel⟩
theorem MX11_127 : zlV RX11 127 yX11_fails cX11_fails 3 ((Option.some FieldType.int)) 2 := ⟨q1219, q1221, qs30, q12, q1222, by decide, by decide, by decide +kernel⟩
noncomputable def fB_Mo_takeNumber_42 (v0 : tMo) (ih : ((Nat → Int32)) → Option ((Nat → Int32))) (s5 : (Nat → Int32)) : Option ((Nat → Int32)) := (if (s5 11) ≤ (s5 13) then (some s5) else (if inb (s5 13) 300 = true then (if (f_Mo_in ((gMo_text v0) (ix (s5 13))).toInt64 48 57) = 0 then (some s5) else (Option.bind (if (s5 16) ≤ 100000 then (if inb (s5 13) 300 = true then (some (((10 * (s5 16)) + ((gMo_text v0) (ix (s5 13)))) - 48)) else none) else (some (s5 16))) (fun (w14 : Int32) => (zlet ((s5 13) + 1) (fun (z18 : Int32) => (ih (upd (upd s5 16 w14) 13 z18))))))) else none))
noncomputable def f_Mo_takeNumber (v0 : tMo) (p1 : Int32) (p2 : Int32) : Option (Int32 × (Nat → Int32)) := (Option.bind (f_Mo_here v0) (fun (r1 : Int32 × (Nat → Int32)) => (if (f_Mo_in (r1.1).toInt64 48 57) = 0 then (zlet (f_Mo_fails ((r1.2), (gMo_told v0), (gMo_postX v0), (gMo_postStrong v0), (gMo_atRow v0), (gMo_heights v0), (gMo_ship v0), (gMo_lines v0), (gMo_text v0), (gMo_said v0), (gMo_readTold v0), (gMo_readX v0), (gMo_readStrong v0), (gMo_readRow v0), (gMo_parting v0), (gMo_wasShip v0), (gMo_wasLines v0), (gMo_worst v0), (gMo_logRow v0), (gMo_images v0), (gMo_isKept v0)) 1 ((r1.2) 13)) (fun (r4 : Int32 × (Nat → Int32)) => (some ((r4.1), (r4.2))))) else (Option.bind (lp (fB_Mo_takeNumber_42 v0) LF (upd (upd (r1.2) 17 ((r1.2) 13)) 16 0)) (fun (q6 : (Nat → Int32)) => (if 4 < ((q6 13) - (q6 17)) then (zlet (f_Mo_fails (q6, (gMo_told v0), (gMo_postX v0), (gMo_postStrong v0), (gMo_atRow v0), (gMo_heights v0), (gMo_ship v0), (gMo_lines v0), (gMo_text v0), (gMo_said v0), (gMo_readTold v0), (gMo_readX v0), (gMo_readStrong v0), (gMo_readRow v0), (gMo_parting v0), (gMo_wasShip v0), (gMo_wasLines v0), (gMo_worst v0), (gMo_logRow v0), (gMo_images v0), (gMo_isKept v0)) 2 (q6 17)) (fun (r20 : Int32 × (Nat → Int32)) => (some ((r20.1), (r20.2))))) else (if (f_Mo_in (q6 16).toInt64 p1.toInt64 p2.toInt64) = 0 then (zlet (f_Mo_fails (q6, (gMo_told v0), (gMo_postX v0), (gMo_postStrong v0), (gMo_atRow v0), (gMo_heights v0), (gMo_ship v0), (gMo_lines v0), (gMo_text v0), (gMo_said v0), (gMo_readTold v0), (gMo_readX v0), (gMo_readStrong v0), (gMo_readRow v0), (gMo_parting v0), (gMo_wasShip v0), (gMo_wasLines v0), (gMo_worst v0), (gMo_logRow v0), (gMo_images v0), (gMo_isKept v0)) 2 (q6 17)) (fun (r23 : Int32 × (Nat → Int32)) => (some ((r23.1), (r23.2))))) else (some (0, q6)))))))))
abbrev rm_Mo_takeNumber : Room := { frames := 1, cells := 0, slots := 0, locals := 25 }
set_option maxHeartbeats 4000000 in
set_option maxRecDepth 100000 in
theorem c_Mo_takeNumber (l : Launch) (g : zGl) (a0 : Nat → Nat) (o0 : Nat) (v0 : tMo) (p1 : Int32) (p2 : Int32) (out : Int32 × (Nat → Int32)) (hf : f_Mo_takeNumber v0 p1 p2 = some out) : zMi l yX11_takeNumber cX11_takeNumber 4 rm_Mo_takeNumber g [.ref (a0 o0), .int p1, .int p2] (W_Mo g a0 o0 (gMo_ints v0) (gMo_told v0) (gMo_postX v0) (gMo_postStrong v0) (gMo_atRow v0) (gMo_heights v0) (gMo_ship v0) (gMo_lines v0) (gMo_text v0) (gMo_said v0) (gMo_readTold v0) (gMo_readX v0) (gMo_readStrong v0) (gMo_readRow v0) (gMo_parting v0) (gMo_wasShip v0) (gMo_wasLines v0) (gMo_worst v0) (gMo_logRow v0) (gMo_images v0) (gMo_isKept v0)) (out.1) (W_Mo g a0 o0 (out.2) (gMo_told v0) (gMo_postX v0) (gMo_postStrong v0) (gMo_atRow v0) (gMo_heights v0) (gMo_ship v0) (gMo_lines v0) (gMo_text v0) (gMo_said v0) (gMo_readTold v0) (gMo_readX v0) (gMo_readStrong v0) (gMo_readRow v0) (gMo_parting v0) (gMo_wasShip v0) (gMo_wasLines v0) (gMo_worst v0) (gMo_logRow v0) (gMo_images v0) (gMo_isKept v0)) := by
  refine zMi_of (lv := [(0, .ref (a0 o0)), (1, .int p1), (2, .int p2)]) (by decide) (Nat.le_of_ble_eq_true rfl) rfl (fun x hl hg C hret => ?_)
  subst hl; subst hg
  rw [f_Mo_takeNumber] at hf
  refine r_aload_n C eX11_takeNumber_0 0 rfl rfl ?_
  obtain ⟨r1, hr1, hf⟩ := zbind hf
  refine r_V_i (ws' := W_Mo (z_g x) a0 o0 (r1.2) (gMo_told v0) (gMo_postX v0) (gMo_postStrong v0) (gMo_atRow v0) (gMo_heights v0) (gMo_ship v0) (gMo_lines v0) (gMo_text v0) (gMo_said v0) (gMo_readTold v0) (gMo_readX v0) (gMo_readStrong v0) (gMo_readRow v0) (gMo_parting v0) (gMo_wasShip v0) (gMo_wasLines v0) (gMo_worst v0) (gMo_logRow v0) (gMo_images v0) (gMo_isKept v0)) C (c_Mo_here (z_l x) (z_g x) a0 o0 v0  r1 hr1) eX11_takeNumber_1 MX11_100 ⟨0, 11, _, _, rfl, rfl, rfl⟩ [0, 1, 2, 3, 4, 5, 6, 7, 8, 9, 10, 11, 12, 13, 14, 15, 16, 17, 18, 19] rfl rfl rfl rfl [] rfl trivial 20 rfl rfl rfl rfl rfl rfl ?_
  refine r_istore_n C [(3, .int (r1.1)), (0, .ref (a0 o0)), (1, .int p1), (2, .int p2)] eX11_takeNumber_4 rfl (by decide) rfl ?_
  refine r_iload_n C eX11_takeNumber_5 0 rfl rfl ?_
  refine r_i2l C eX11_takeNumber_6 ?_
  refine r_ldc2 C (v := 48) eX11_takeNumber_7 q1231 ?_
  refine r_ldc2 C (v := 57) eX11_takeNumber_10 q1232 ?_
  refine r_S_z (ws' := W_Mo (z_g x) a0 o0 (r1.2) (gMo_told v0) (gMo_postX v0) (gMo_postStrong v0) (gMo_atRow v0) (gMo_heights v0) (gMo_ship v0) (gMo_lines v0) (gMo_text v0) (gMo_said v0) (gMo_readTold v0) (gMo_readX v0) (gMo_readStrong v0) (gMo_readRow v0) (gMo_parting v0) (gMo_wasShip v0) (gMo_wasLines v0) (gMo_worst v0) (gMo_logRow v0) (gMo_images v0) (gMo_isKept v0)) C (c_Mo_in (z_l x) (z_g x)  (r1.1).toInt64 48 57 _ rfl) eX11_takeNumber_13 MX11_86 [] rfl rfl rfl rfl [0, 1, 2, 3, 4, 5, 6, 7, 8, 9, 10, 11, 12, 13, 14, 15, 16, 17, 18, 19] rfl ⟨rfl, rfl, rfl, rfl, rfl, rfl, rfl, rfl, rfl, rfl, rfl, rfl, rfl, rfl, rfl, rfl, rfl, rfl, rfl, rfl, trivial⟩ 20 rfl rfl rfl rfl rfl rfl (fun zb2 => ?_)
  refine r_if_ne C eX11_takeNumber_16 (fun c3 => ?_) (fun c3 => ?_)
  · rw [if_neg c3] at hf
    refine r_aload_n C eX11_takeNumber_29 1 rfl rfl ?_
    refine r_aload_n C eX11_takeNumber_30 1 rfl rfl ?_
    refine r_get (v := .int ((r1.2) 13)) C eX11_takeNumber_31 FX11_97 0 rfl rfl ?_
    refine r_put (ws' := W_Mo (z_g x) a0 o0 (upd (r1.2) 17 ((r1.2) 13)) (gMo_told v0) (gMo_postX v0) (gMo_postStrong v0) (gMo_atRow v0) (gMo_heights v0) (gMo_ship v0) (gMo_lines v0) (gMo_text v0) (gMo_said v0) (gMo_readTold v0) (gMo_readX v0) (gMo_readStrong v0) (gMo_readRow v0) (gMo_parting v0) (gMo_wasShip v0) (gMo_wasLines v0) (gMo_worst v0) (gMo_logRow v0) (gMo_images v0) (gMo_isKept v0)) C eX11_takeNumber_34 PX11_131 0 rfl rfl rfl (Nat.le_of_ble_eq_true rfl) rfl ?_
    refine r_aload_n C eX11_takeNumber_37 1 rfl rfl ?_
    refine r_iconst C (v := 0) eX11_takeNumber_38 (by decide) ?_
    refine r_put (ws' := W_Mo (z_g x) a0 o0 (upd (upd (r1.2) 17 ((r1.2) 13)) 16 0) (gMo_told v0) (gMo_postX v0) (gMo_postStrong v0) (gMo_atRow v0) (gMo_heights v0) (gMo_ship v0) (gMo_lines v0) (gMo_text v0) (gMo_said v0) (gMo_readTold v0) (gMo_readX v0) (gMo_readStrong v0) (gMo_readRow v0) (gMo_parting v0) (gMo_wasShip v0) (gMo_wasLines v0) (gMo_worst v0) (gMo_logRow v0) (gMo_images v0) (gMo_isKept v0)) C eX11_takeNumber_39 PX11_134 0 rfl rfl rfl (Nat.le_of_ble_eq_true rfl) rfl ?_
    obtain ⟨q6, h7, hf⟩ := zbind hf
    have J8 : vV x 4 0 0 (W_Mo (z_g x) a0 o0 q6 (gMo_told v0) (gMo_postX v0) (gMo_postStrong v0) (gMo_atRow v0) (gMo_heights v0) (gMo_ship v0) (gMo_lines v0) (gMo_text v0) (gMo_said v0) (gMo_readTold v0) (gMo_readX v0) (gMo_readStrong v0) (gMo_readRow v0) (gMo_parting v0) (gMo_wasShip v0) (gMo_wasLines v0) (gMo_worst v0) (gMo_logRow v0) (gMo_images v0) (gMo_isKept v0)) 128 [(0, .ref (a0 o0)), (1, .int p1), (2, .int p2)] [] := by
      refine r_aload_n C eX11_takeNumber_128 0 rfl rfl ?_
      refine r_get (v := .int (q6 13)) C eX11_takeNumber_129 FX11_97 0 rfl rfl ?_
      refine r_aload_n C eX11_takeNumber_132 0 rfl rfl ?_
      refine r_get (v := .int (q6 17)) C eX11_takeNumber_133 FX11_131 0 rfl rfl ?_
      refine r_isub C eX11_takeNumber_136 ?_
      refine r_iconst C (v := 4) eX11_takeNumber_137 (by decide) ?_
      refine r_icmp_gt C eX11_takeNumber_138 (fun c19 => ?_) (fun c19 => ?_)
      · rw [if_pos c19] at hf
        refine r_aload_n C eX11_takeNumber_156 0 rfl rfl ?_
        refine r_iconst C (v := 2) eX11_takeNumber_157 (by decide) ?_
        refine r_aload_n C eX11_takeNumber_158 0 rfl rfl ?_
        refine r_get (v := .int (q6 17)) C eX11_takeNumber_159 FX11_131 0 rfl rfl ?_
        obtain ⟨r20, hr20, hf⟩ := zlet_of hf
        refine r_V_i (ws' := W_Mo (z_g x) a0 o0 (r20.2) (gMo_told v0) (gMo_postX v0) (gMo_postStrong v0) (gMo_atRow v0) (gMo_heights v0) (gMo_ship v0) (gMo_lines v0) (gMo_text v0) (gMo_said v0) (gMo_readTold v0) (gMo_readX v0) (gMo_readStrong v0) (gMo_readRow v0) (gMo_parting v0) (gMo_wasShip v0) (gMo_wasLines v0) (gMo_worst v0) (gMo_logRow v0) (gMo_images v0) (gMo_isKept v0)) C (c_Mo_fails (z_l x) (z_g x) a0 o0 (q6, (gMo_told v0), (gMo_postX v0), (gMo_postStrong v0), (gMo_atRow v0), (gMo_heights v0), (gMo_ship v0), (gMo_lines v0), (gMo_text v0), (gMo_said v0), (gMo_readTold v0), (gMo_readX v0), (gMo_readStrong v0), (gMo_readRow v0), (gMo_parting v0), (gMo_wasShip v0), (gMo_wasLines v0), (gMo_worst v0), (gMo_logRow v0), (gMo_images v0), (gMo_isKept v0)) 2 (q6 17) r20 hr20) eX11_takeNumber_162 MX11_127 ⟨0, 11, _, _, rfl, rfl, rfl⟩ [0, 1, 2, 3, 4, 5, 6, 7, 8, 9, 10, 11, 12, 13, 14, 15, 16, 17, 18, 19] rfl rfl rfl rfl [] rfl trivial 20 rfl rfl rfl rfl rfl rfl ?_
        refine r_goto C eX11_takeNumber_165 ?_
        obtain rfl := Option.some.inj (show some (((r20.1), (r20.2)) : Int32 × (Nat → Int32)) = some _ from hf)
        exact hret _ _ _ eX11_takeNumber_169
      · rw [if_neg c19] at hf
        refine r_aload_n C eX11_takeNumber_141 0 rfl rfl ?_
        refine r_get (v := .int (q6 16)) C eX11_takeNumber_142 FX11_134 0 rfl rfl ?_
        refine r_i2l C eX11_takeNumber_145 ?_
        refine r_iload_n C eX11_takeNumber_146 1 rfl rfl ?_
        refine r_i2l C eX11_takeNumber_147 ?_
        refine r_iload_n C eX11_takeNumber_148 2 rfl rfl ?_
        refine r_i2l C eX11_takeNumber_149 ?_
        refine r_S_z (ws' := W_Mo (z_g x) a0 o0 q6 (gMo_told v0) (gMo_postX v0) (gMo_postStrong v0) (gMo_atRow v0) (gMo_heights v0) (gMo_ship v0) (gMo_lines v0) (gMo_text v0) (gMo_said v0) (gMo_readTold v0) (gMo_readX v0) (gMo_readStrong v0) (gMo_readRow v0) (gMo_parting v0) (gMo_wasShip v0) (gMo_wasLines v0) (gMo_worst v0) (gMo_logRow v0) (gMo_images v0) (gMo_isKept v0)) C (c_Mo_in (z_l x) (z_g x)  (q6 16).toInt64 p1.toInt64 p2.toInt64 _ rfl) eX11_takeNumber_150 MX11_86 [] rfl rfl rfl rfl [0, 1, 2, 3, 4, 5, 6, 7, 8, 9, 10, 11, 12, 13, 14, 15, 16, 17, 18, 19] rfl ⟨rfl, rfl, rfl, rfl, rfl, rfl, rfl, rfl, rfl, rfl, rfl, rfl, rfl, rfl, rfl, rfl, rfl, rfl, rfl, rfl, trivial⟩ 20 rfl rfl rfl rfl rfl rfl (fun zb21 => ?_)
        refine r_if_ne C eX11_takeNumber_153 (fun c22 => ?_) (fun c22 => ?_)
        · rw [if_neg c22] at hf
          refine r_iconst C (v := 0) eX11_takeNumber_168 (by decide) ?_
          obtain rfl := Option.some.inj (show some ((0, q6) : Int32 × (Nat → Int32)) = some _ from hf)
          exact hret _ _ _ eX11_takeNumber_169
        · rw [if_pos c22] at hf
          refine r_aload_n C eX11_takeNumber_156 0 rfl rfl ?_
          refine r_iconst C (v := 2) eX11_takeNumber_157 (by decide) ?_
          refine r_aload_n C eX11_takeNumber_158 0 rfl rfl ?_
          refine r_get (v := .int (q6 17)) C eX11_takeNumber_159 FX11_131 0 rfl rfl ?_
          obtain ⟨r23, hr23, hf⟩ := zlet_of hf
          refine r_V_i (ws' := W_Mo (z_g x) a0 o0 (r23.2) (gMo_told v0) (gMo_postX v0) (gMo_postStrong v0) (gMo_atRow v0) (gMo_heights v0) (gMo_ship v0) (gMo_lines v0) (gMo_text v0) (gMo_said v0) (gMo_readTold v0) (gMo_readX v0) (gMo_readStrong v0) (gMo_readRow v0) (gMo_parting v0) (gMo_wasShip v0) (gMo_wasLines v0) (gMo_worst v0) (gMo_logRow v0) (gMo_images v0) (gMo_isKept v0)) C (c_Mo_fails (z_l x) (z_g x) a0 o0 (q6, (gMo_told v0), (gMo_postX v0), (gMo_postStrong v0), (gMo_atRow v0), (gMo_heights v0), (gMo_ship v0), (gMo_lines v0), (gMo_text v0), (gMo_said v0), (gMo_readTold v0), (gMo_readX v0), (gMo_readStrong v0), (gMo_readRow v0), (gMo_parting v0), (gMo_wasShip v0), (gMo_wasLines v0), (gMo_worst v0), (gMo_logRow v0), (gMo_images v0), (gMo_isKept v0)) 2 (q6 17) r23 hr23) eX11_takeNumber_162 MX11_127 ⟨0, 11, _, _, rfl, rfl, rfl⟩ [0, 1, 2, 3, 4, 5, 6, 7, 8, 9, 10, 11, 12, 13, 14, 15, 16, 17, 18, 19] rfl rfl rfl rfl [] rfl trivial 20 rfl rfl rfl rfl rfl rfl ?_
          refine r_goto C eX11_takeNumber_165 ?_
          obtain rfl := Option.some.inj (show some (((r23.1), (r23.2)) : Int32 × (Nat → Int32)) = some _ from hf)
          exact hret _ _ _ eX11_takeNumber_169
    have L9 : ∀ (nL9 : Nat) (s5 : (Nat → Int32)), lp (fB_Mo_takeNumber_42 v0) nL9 s5 = some q6 → vV x 4 0 0 (W_Mo (z_g x) a0 o0 s5 (gMo_told v0) (gMo_postX v0) (gMo_postStrong v0) (gMo_atRow v0) (gMo_heights v0) (gMo_ship v0) (gMo_lines v0) (gMo_text v0) (gMo_said v0) (gMo_readTold v0) (gMo_readX v0) (gMo_readStrong v0) (gMo_readRow v0) (gMo_parting v0) (gMo_wasShip v0) (gMo_wasLines v0) (gMo_worst v0) (gMo_logRow v0) (gMo_images v0) (gMo_isKept v0)) 42 [(0, .ref (a0 o0)), (1, .int p1), (2, .int p2)] [] := by
      intro nL9
      induction nL9 with
      | zero => intro s5 hq; cases hq
      | succ nL9 ihL9 =>
        intro s5 hbL9
        rw [lp_succ, fB_Mo_takeNumber_42] at hbL9
        refine r_aload_n C eX11_takeNumber_42 0 rfl rfl ?_
        refine r_get (v := .int (s5 13)) C eX11_takeNumber_43 FX11_97 0 rfl rfl ?_
        refine r_aload_n C eX11_takeNumber_46 0 rfl rfl ?_
        refine r_get (v := .int (s5 11)) C eX11_takeNumber_47 FX11_91 0 rfl rfl ?_
        refine r_icmp_ge C eX11_takeNumber_50 (fun c10 => ?_) (fun c10 => ?_)
        · rw [if_pos c10] at hbL9
          obtain rfl := Option.some.inj hbL9
          exact J8
        · rw [if_neg c10] at hbL9
          refine r_aload_n C eX11_takeNumber_53 0 rfl rfl ?_
          refine r_get (v := .ref (a0 (o0 + 8))) C eX11_takeNumber_54 FX11_32 0 rfl rfl ?_
          refine r_aload_n C eX11_takeNumber_57 0 rfl rfl ?_
          refine r_get (v := .int (s5 13)) C eX11_takeNumber_58 FX11_97 0 rfl rfl ?_
          obtain ⟨hb11, hbL9⟩ := zchk hbL9
          refine r_iald C eX11_takeNumber_61 8 rfl (inb_in hb11) ((gMo_text v0) (ix (s5 13))) rfl ?_
          refine r_i2l C eX11_takeNumber_62 ?_
          refine r_ldc2 C (v := 48) eX11_takeNumber_63 q1231 ?_
          refine r_ldc2 C (v := 57) eX11_takeNumber_66 q1232 ?_
          refine r_S_z (ws' := W_Mo (z_g x) a0 o0 s5 (gMo_told v0) (gMo_postX v0) (gMo_postStrong v0) (gMo_atRow v0) (gMo_heights v0) (gMo_ship v0) (gMo_lines v0) (gMo_text v0) (gMo_said v0) (gMo_readTold v0) (gMo_readX v0) (gMo_readStrong v0) (gMo_readRow v0) (gMo_parting v0) (gMo_wasShip v0) (gMo_wasLines v0) (gMo_worst v0) (gMo_logRow v0) (gMo_images v0) (gMo_isKept v0)) C (c_Mo_in (z_l x) (z_g x)  ((gMo_text v0) (ix (s5 13))).toInt64 48 57 _ rfl) eX11_takeNumber_69 MX11_86 [] rfl rfl rfl rfl [0, 1, 2, 3, 4, 5, 6, 7, 8, 9, 10, 11, 12, 13, 14, 15, 16, 17, 18, 19] rfl ⟨rfl, rfl, rfl, rfl, rfl, rfl, rfl, rfl, rfl, rfl, rfl, rfl, rfl, rfl, rfl, rfl, rfl, rfl, rfl, rfl, trivial⟩ 20 rfl rfl rfl rfl rfl rfl (fun zb12 => ?_)
          refine r_if_eq C eX11_takeNumber_72 (fun c13 => ?_) (fun c13 => ?_)
          · rw [if_pos c13] at hbL9
            obtain rfl := Option.some.inj hbL9
            exact J8
          · rw [if_neg c13] at hbL9
            refine r_aload_n C eX11_takeNumber_75 0 rfl rfl ?_
            refine r_aload_n C eX11_takeNumber_76 0 rfl rfl ?_
            refine r_get (v := .int (s5 16)) C eX11_takeNumber_77 FX11_134 0 rfl rfl ?_
            refine r_ldc C (v := 100000) eX11_takeNumber_80 q1233 ?_
            obtain ⟨w14, hw14, hbL9⟩ := zbind hbL9
            have J15 : vV x 4 0 0 (W_Mo (z_g x) a0 o0 s5 (gMo_told v0) (gMo_postX v0) (gMo_postStrong v0) (gMo_atRow v0) (gMo_heights v0) (gMo_ship v0) (gMo_lines v0) (gMo_text v0) (gMo_said v0) (gMo_readTold v0) (gMo_readX v0) (gMo_readStrong v0) (gMo_readRow v0) (gMo_parting v0) (gMo_wasShip v0) (gMo_wasLines v0) (gMo_worst v0) (gMo_logRow v0) (gMo_images v0) (gMo_isKept v0)) 112 [(0, .ref (a0 o0)), (1, .int p1), (2, .int p2)] [.int w14, .ref (a0 o0)] := by
              refine r_put (ws' := W_Mo (z_g x) a0 o0 (upd s5 16 w14) (gMo_told v0) (gMo_postX v0) (gMo_postStrong v0) (gMo_atRow v0) (gMo_heights v0) (gMo_ship v0) (gMo_lines v0) (gMo_text v0) (gMo_said v0) (gMo_readTold v0) (gMo_readX v0) (gMo_readStrong v0) (gMo_readRow v0) (gMo_parting v0) (gMo_wasShip v0) (gMo_wasLines v0) (gMo_worst v0) (gMo_logRow v0) (gMo_images v0) (gMo_isKept v0)) C eX11_takeNumber_112 PX11_134 0 rfl rfl rfl (Nat.le_of_ble_eq_true rfl) rfl ?_
              refine r_aload_n C eX11_takeNumber_115 0 rfl rfl ?_
              refine r_dup C eX11_takeNumber_116 rfl ?_
              refine r_get (v := .int (s5 13)) C eX11_takeNumber_117 FX11_97 0 rfl rfl ?_
              refine r_iconst C (v := 1) eX11_takeNumber_120 (by decide) ?_
              refine r_iadd C eX11_takeNumber_121 ?_
              obtain ⟨z18, hz18, hbL9⟩ := zlet_of hbL9
              refine r_nami hz18 ?_
              refine r_put (ws' := W_Mo (z_g x) a0 o0 (upd (upd s5 16 w14) 13 z18) (gMo_told v0) (gMo_postX v0) (gMo_postStrong v0) (gMo_atRow v0) (gMo_heights v0) (gMo_ship v0) (gMo_lines v0) (gMo_text v0) (gMo_said v0) (gMo_readTold v0) (gMo_readX v0) (gMo_readStrong v0) (gMo_readRow v0) (gMo_parting v0) (gMo_wasShip v0) (gMo_wasLines v0) (gMo_worst v0) (gMo_logRow v0) (gMo_images v0) (gMo_isKept v0)) C eX11_takeNumber_122 PX11_97 0 rfl rfl rfl (Nat.le_of_ble_eq_true rfl) rfl ?_
              refine r_goto C eX11_takeNumber_125 ?_
              have hc := ihL9 (upd (upd s5 16 w14) 13 z18) hbL9
              exact hc
            refine r_icmp_le C eX11_takeNumber_82 (fun c16 => ?_) (fun c16 => ?_)
            · rw [if_pos c16] at hw14
              refine r_bipush C (v := 10) eX11_takeNumber_92 (by decide) ?_
              refine r_aload_n C eX11_takeNumber_94 0 rfl rfl ?_
              refine r_get (v := .int (s5 16)) C eX11_takeNumber_95 FX11_134 0 rfl rfl ?_
              refine r_imul C eX11_takeNumber_98 ?_
              refine r_aload_n C eX11_takeNumber_99 0 rfl rfl ?_
              refine r_get (v := .ref (a0 (o0 + 8))) C eX11_takeNumber_100 FX11_32 0 rfl rfl ?_
              refine r_aload_n C eX11_takeNumber_103 0 rfl rfl ?_
              refine r_get (v := .int (s5 13)) C eX11_takeNumber_104 FX11_97 0 rfl rfl ?_
              obtain ⟨hb17, hw14⟩ := zchk hw14
              refine r_iald C eX11_takeNumber_107 8 rfl (inb_in hb17) ((gMo_text v0) (ix (s5 13))) rfl ?_
              refine r_iadd C eX11_takeNumber_108 ?_
              refine r_bipush C (v := 48) eX11_takeNumber_109 (by decide) ?_
              refine r_isub C eX11_takeNumber_111 ?_
              obtain rfl := Option.some.inj hw14
              exact J15 
            · rw [if_neg c16] at hw14
              refine r_aload_n C eX11_takeNumber_85 0 rfl rfl ?_
              refine r_get (v := .int (s5 16)) C eX11_takeNumber_86 FX11_134 0 rfl rfl ?_
              refine r_goto C eX11_takeNumber_89 ?_
              obtain rfl := Option.some.inj hw14
              exact J15 
    refine r_sub (lv' := [(0, .ref (a0 o0)), (1, .int p1), (2, .int p2)]) [1, 2, 3] rfl ?_
    have hc := L9 LF (upd (upd (r1.2) 17 ((r1.2) 13)) 16 0) h7
    exact hc
  · rw [if_pos c3] at hf
    refine r_aload_n C eX11_takeNumber_19 1 rfl rfl ?_
    refine r_iconst C (v := 1) eX11_takeNumber_20 (by decide) ?_
    refine r_aload_n C eX11_takeNumber_21 1 rfl rfl ?_
    refine r_get (v := .int ((r1.2) 13)) C eX11_takeNumber_22 FX11_97 0 rfl rfl ?_
    obtain ⟨r4, hr4, hf⟩ := zlet_of hf
    refine r_V_i (ws' := W_Mo (z_g x) a0 o0 (r4.2) (gMo_told v0) (gMo_postX v0) (gMo_postStrong v0) (gMo_atRow v0) (gMo_heights v0) (gMo_ship v0) (gMo_lines v0) (gMo_text v0) (gMo_said v0) (gMo_readTold v0) (gMo_readX v0) (gMo_readStrong v0) (gMo_readRow v0) (gMo_parting v0) (gMo_wasShip v0) (gMo_wasLines v0) (gMo_worst v0) (gMo_logRow v0) (gMo_images v0) (gMo_isKept v0)) C (c_Mo_fails (z_l x) (z_g x) a0 o0 ((r1.2), (gMo_told v0), (gMo_postX v0), (gMo_postStrong v0), (gMo_atRow v0), (gMo_heights v0), (gMo_ship v0), (gMo_lines v0), (gMo_text v0), (gMo_said v0), (gMo_readTold v0), (gMo_readX v0), (gMo_readStrong v0), (gMo_readRow v0), (gMo_parting v0), (gMo_wasShip v0), (gMo_wasLines v0), (gMo_worst v0), (gMo_logRow v0), (gMo_images v0), (gMo_isKept v0)) 1 ((r1.2) 13) r4 hr4) eX11_takeNumber_25 MX11_127 ⟨0, 11, _, _, rfl, rfl, rfl⟩ [0, 1, 2, 3, 4, 5, 6, 7, 8, 9, 10, 11, 12, 13, 14, 15, 16, 17, 18, 19] rfl rfl rfl rfl [] rfl trivial 20 rfl rfl rfl rfl rfl rfl ?_
    obtain rfl := Option.some.inj (show some (((r4.1), (r4.2)) : Int32 × (Nat → Int32)) = some _ from hf)
    exact hret _ _ _ eX11_takeNumber_28
theorem eX11_takeStop_0 : zd 1 cX11_takeStop 0 1 (.aload_n 0) := ⟨by decide +kernel, rfl⟩
theorem eX11_takeStop_1 : zd 3 cX11_takeStop 1 4 (.invokevirtual 100) := ⟨by decide +kernel, rfl⟩
theorem eX11_takeStop_4 : zd 2 cX11_takeStop 4 6 (.bipush 59) := ⟨by decide +kernel, rfl⟩
theorem eX11_takeStop_6 : zdi cX11_takeStop 6 9 19 (.if_icmp .eq) := ⟨13, by decide +kernel, rfl, by decide⟩
theorem eX11_takeStop_9 : zd 1 cX11_takeStop 9 10 (.aload_n 0) := ⟨by decide +kernel, rfl⟩
theorem eX11_takeStop_10 : zd 1 cX11_takeStop 10 11 (.iconst 1) := ⟨by decide +kernel, rfl⟩
theorem eX11_takeStop_11 : zd 1 cX11_takeStop 11 12 (.aload_n 0) := ⟨by decide +kernel, rfl⟩
theorem eX11_takeStop_12 : zd 3 cX11_takeStop 12 15 (.getfield 97) := ⟨by decide +kernel, rfl⟩
theorem eX11_takeStop_15 : zd 3 cX11_takeStop 15 18 (.invokevirtual 127) := ⟨by decide +kernel, rfl⟩
theorem eX11_takeStop_18 : zd 1 cX11_takeStop 18 19 (.ireturn) := ⟨by decide +kernel, rfl⟩
theorem eX11_takeStop_19 : zd 1 cX11_takeStop 19 20 (.aload_n 0) := ⟨by decide +kernel, rfl⟩
theorem eX11_takeStop_20 : zd 1 cX11_takeStop 20 21 (.dup) := ⟨by decide +kernel, rfl⟩
theorem eX11_takeStop_21 : zd 3 cX11_takeStop 21 24 (.getfield 97) := ⟨by decide +kernel, rfl⟩
theorem eX11_takeStop_24 : zd 1 cX11_takeStop 24 25 (.iconst 1) := ⟨by decide +kernel, rfl⟩
theorem eX11_takeStop_25 : zd 1 cX11_takeStop 25 26 (.iadd) := ⟨by decide +kernel, rfl⟩
theorem eX11_takeStop_26 : zd 3 cX11_takeStop 26 29 (.putfield 97) := ⟨by decide +kernel, rfl⟩
theorem eX11_takeStop_29 : zd 1 cX11_takeStop 29 30 (.iconst 0) := ⟨by decide +kernel, rfl⟩
theorem eX11_takeStop_30 : zd 1 cX11_takeStop 30 31 (.ireturn) := ⟨by decide +kernel, rfl⟩
noncomputable def f_Mo_takeStop (v0 : tMo)  : Option (Int32 × (Nat → Int32)) := (Option.bind (f_Mo_here v0) (fun (r1 : Int32 × (Nat → Int32)) => (if (r1.1) = 59 then (zlet (((r1.2) 13) + 1) (fun (z3 : Int32) => (some (0, (upd (r1.2) 13 z3))))) else (zlet (f_Mo_fails ((r1.2), (gMo_told v0), (gMo_postX v0), (gMo_postStrong v0), (gMo_atRow v0), (gMo_heights v0), (gMo_ship v0), (gMo_lines v0), (gMo_text v0), (gMo_said v0), (gMo_readTold v0), (gMo_readX v0), (gMo_readStrong v0), (gMo_readRow v0), (gMo_parting v0), (gMo_wasShip v0), (gMo_wasLines v0), (gMo_worst v0), (gMo_logRow v0), (gMo_images v0), (gMo_isKept v0)) 1 ((r1.2) 13)) (fun (r4 : Int32 × (Nat → Int32)) => (some ((r4.1), (r4.2))))))))
abbrev rm_Mo_takeStop : Room := { frames := 1, cells := 0, slots := 0, locals := 22 }
set_option maxHeartbeats 4000000 in
set_option maxRecDepth 100000 in
theorem c_Mo_takeStop (l : Launch) (g : zGl) (a0 : Nat → Nat) (o0 : Nat) (v0 : tMo)  (out : Int32 × (Nat → Int32)) (hf : f_Mo_takeStop v0 = some out) : zMi l yX11_takeStop cX11_takeStop 1 rm_Mo_takeStop g [.ref (a0 o0)] (W_Mo g a0 o0 (gMo_ints v0) (gMo_told v0) (gMo_postX v0) (gMo_postStrong v0) (gMo_atRow v0) (gMo_heights v0) (gMo_ship v0) (gMo_lines v0) (gMo_text v0) (gMo_said v0) (gMo_readTold v0) (gMo_readX v0) (gMo_readStrong v0) (gMo_readRow v0) (gMo_parting v0) (gMo_wasShip v0) (gMo_wasLines v0) (gMo_worst v0) (gMo_logRow v0) (gMo_images v0) (gMo_isKept v0)) (out.1) (W_Mo g a0 o0 (out.2) (gMo_told v0) (gMo_postX v0) (gMo_postStrong v0) (gMo_atRow v0) (gMo_heights v0) (gMo_ship v0) (gMo_lines v0) (gMo_text v0) (gMo_said v0) (gMo_readTold v0) (gMo_readX v0) (gMo_readStrong v0) (gMo_readRow v0) (gMo_parting v0) (gMo_wasShip v0) (gMo_wasLines v0) (gMo_worst v0) (gMo_logRow v0) (gMo_images v0) (gMo_isKept v0)) := by
  refine zMi_of (lv := [(0, .ref (a0 o0))]) (by decide) (Nat.le_of_ble_eq_true rfl) rfl (fun x hl hg C hret => ?_)
  subst hl; subst hg
  rw [f_Mo_takeStop] at hf
  refine r_aload_n C eX11_takeStop_0 0 rfl rfl ?_
  obtain ⟨r1, hr1, hf⟩ := zbind hf
  refine r_V_i (ws' := W_Mo (z_g x) a0 o0 (r1.2) (gMo_told v0) (gMo_postX v0) (gMo_postStrong v0) (gMo_atRow v0) (gMo_heights v0) (gMo_ship v0) (gMo_lines v0) (gMo_text v0) (gMo_said v0) (gMo_readTold v0) (gMo_readX v0) (gMo_readStrong v0) (gMo_readRow v0) (gMo_parting v0) (gMo_wasShip v0) (gMo_wasLines v0) (gMo_worst v0) (gMo_logRow v0) (gMo_images v0) (gMo_isKept v0)) C (c_Mo_here (z_l x) (z_g x) a0 o0 v0  r1 hr1) eX11_takeStop_1 MX11_100 ⟨0, 11, _, _, rfl, rfl, rfl⟩ [0, 1, 2, 3, 4, 5, 6, 7, 8, 9, 10, 11, 12, 13, 14, 15, 16, 17, 18, 19] rfl rfl rfl rfl [] rfl trivial 20 rfl rfl rfl rfl rfl rfl ?_
  refine r_bipush C (v := 59) eX11_takeStop_4 (by decide) ?_
  refine r_icmp_eq C eX11_takeStop_6 (fun c2 => ?_) (fun c2 => ?_)
  · rw [if_pos c2] at hf
    refine r_aload_n C eX11_takeStop_19 0 rfl rfl ?_
    refine r_dup C eX11_takeStop_20 rfl ?_
    refine r_get (v := .int ((r1.2) 13)) C eX11_takeStop_21 FX11_97 0 rfl rfl ?_
    refine r_iconst C (v := 1) eX11_takeStop_24 (by decide) ?_
    refine r_iadd C eX11_takeStop_25 ?_
    obtain ⟨z3, hz3, hf⟩ := zlet_of hf
    refine r_nami hz3 ?_
    refine r_put (ws' := W_Mo (z_g x) a0 o0 (upd (r1.2) 13 z3) (gMo_told v0) (gMo_postX v0) (gMo_postStrong v0) (gMo_atRow v0) (gMo_heights v0) (gMo_ship v0) (gMo_lines v0) (gMo_text v0) (gMo_said v0) (gMo_readTold v0) (gMo_readX v0) (gMo_readStrong v0) (gMo_readRow v0) (gMo_parting v0) (gMo_wasShip v0) (gMo_wasLines v0) (gMo_worst v0) (gMo_logRow v0) (gMo_images v0) (gMo_isKept v0)) C eX11_takeStop_26 PX11_97 0 rfl rfl rfl (Nat.le_of_ble_eq_true rfl) rfl ?_
    refine r_iconst C (v := 0) eX11_takeStop_29 (by decide) ?_
    obtain rfl := Option.some.inj (show some ((0, (upd (r1.2) 13 z3)) : Int32 × (Nat → Int32)) = some _ from hf)
    exact hret _ _ _ eX11_takeStop_30
  · rw [if_neg c2] at hf
    refine r_aload_n C eX11_takeStop_9 0 rfl rfl ?_
    refine r_iconst C (v := 1) eX11_takeStop_10 (by decide) ?_
    refine r_aload_n C eX11_takeStop_11 0 rfl rfl ?_
    refine r_get (v := .int ((r1.2) 13)) C eX11_takeStop_12 FX11_97 0 rfl rfl ?_
    obtain ⟨r4, hr4, hf⟩ := zlet_of hf
    refine r_V_i (ws' := W_Mo (z_g x) a0 o0 (r4.2) (gMo_told v0) (gMo_postX v0) (gMo_postStrong v0) (gMo_atRow v0) (gMo_heights v0) (gMo_ship v0) (gMo_lines v0) (gMo_text v0) (gMo_said v0) (gMo_readTold v0) (gMo_readX v0) (gMo_readStrong v0) (gMo_readRow v0) (gMo_parting v0) (gMo_wasShip v0) (gMo_wasLines v0) (gMo_worst v0) (gMo_logRow v0) (gMo_images v0) (gMo_isKept v0)) C (c_Mo_fails (z_l x) (z_g x) a0 o0 ((r1.2), (gMo_told v0), (gMo_postX v0), (gMo_postStrong v0), (gMo_atRow v0), (gMo_heights v0), (gMo_ship v0), (gMo_lines v0), (gMo_text v0), (gMo_said v0), (gMo_readTold v0), (gMo_readX v0), (gMo_readStrong v0), (gMo_readRow v0), (gMo_parting v0), (gMo_wasShip v0), (gMo_wasLines v0), (gMo_worst v0), (gMo_logRow v0), (gMo_images v0), (gMo_isKept v0)) 1 ((r1.2) 13) r4 hr4) eX11_takeStop_15 MX11_127 ⟨0, 11, _, _, rfl, rfl, rfl⟩ [0, 1, 2, 3, 4, 5, 6, 7, 8, 9, 10, 11, 12, 13, 14, 15, 16, 17, 18, 19] rfl rfl rfl rfl [] rfl trivial 20 rfl rfl rfl rfl rfl rfl ?_
    obtain rfl := Option.some.inj (show some (((r4.1), (r4.2)) : Int32 × (Nat → Int32)) = some _ from hf)
    exact hret _ _ _ eX11_takeStop_18
theorem eX11_takeAt_0 : zd 1 cX11_takeAt 0 1 (.aload_n 0) := ⟨by decide +kernel, rfl⟩
theorem eX11_takeAt_1 : zd 3 cX11_takeAt 1 4 (.invokevirtual 154) := ⟨by decide +kernel, rfl⟩
theorem eX11_takeAt_4 : zd 1 cX11_takeAt 4 5 (.aload_n 0) := ⟨by decide +kernel, rfl⟩
theorem eX11_takeAt_5 : zd 3 cX11_takeAt 5 8 (.getfield 104) := ⟨by decide +kernel, rfl⟩
theorem eX11_takeAt_8 : zd 3 cX11_takeAt 8 11 (.ldc2_w 179) := ⟨by decide +kernel, rfl⟩
theorem eX11_takeAt_11 : zd 1 cX11_takeAt 11 12 (.lcmp) := ⟨by decide +kernel, rfl⟩
theorem eX11_takeAt_12 : zdi cX11_takeAt 12 15 25 (.ifCond .eq) := ⟨13, by decide +kernel, rfl, by decide⟩
theorem eX11_takeAt_15 : zd 1 cX11_takeAt 15 16 (.aload_n 0) := ⟨by decide +kernel, rfl⟩
theorem eX11_takeAt_16 : zd 1 cX11_takeAt 16 17 (.iconst 1) := ⟨by decide +kernel, rfl⟩
theorem eX11_takeAt_17 : zd 1 cX11_takeAt 17 18 (.aload_n 0) := ⟨by decide +kernel, rfl⟩
theorem eX11_takeAt_18 : zd 3 cX11_takeAt 18 21 (.getfield 97) := ⟨by decide +kernel, rfl⟩
theorem eX11_takeAt_21 : zd 3 cX11_takeAt 21 24 (.invokevirtual 127) := ⟨by decide +kernel, rfl⟩
theorem eX11_takeAt_24 : zd 1 cX11_takeAt 24 25 (.ireturn) := ⟨by decide +kernel, rfl⟩
theorem eX11_takeAt_25 : zd 1 cX11_takeAt 25 26 (.aload_n 0) := ⟨by decide +kernel, rfl⟩
theorem eX11_takeAt_26 : zd 3 cX11_takeAt 26 29 (.getfield 181) := ⟨by decide +kernel, rfl⟩
theorem eX11_takeAt_29 : zd 2 cX11_takeAt 29 31 (.bipush 20) := ⟨by decide +kernel, rfl⟩
theorem eX11_takeAt_31 : zdi cX11_takeAt 31 34 44 (.if_icmp .ne) := ⟨13, by decide +kernel, rfl, by decide⟩
theorem eX11_takeAt_34 : zd 1 cX11_takeAt 34 35 (.aload_n 0) := ⟨by decide +kernel, rfl⟩
theorem eX11_takeAt_35 : zd 1 cX11_takeAt 35 36 (.iconst 3) := ⟨by decide +kernel, rfl⟩
theorem eX11_takeAt_36 : zd 1 cX11_takeAt 36 37 (.aload_n 0) := ⟨by decide +kernel, rfl⟩
theorem eX11_takeAt_37 : zd 3 cX11_takeAt 37 40 (.getfield 97) := ⟨by decide +kernel, rfl⟩
theorem eX11_takeAt_40 : zd 3 cX11_takeAt 40 43 (.invokevirtual 127) := ⟨by decide +kernel, rfl⟩
theorem eX11_takeAt_43 : zd 1 cX11_takeAt 43 44 (.ireturn) := ⟨by decide +kernel, rfl⟩
theorem eX11_takeAt_44 : zd 1 cX11_takeAt 44 45 (.aload_n 0) := ⟨by decide +kernel, rfl⟩
theorem eX11_takeAt_45 : zd 1 cX11_takeAt 45 46 (.aload_n 0) := ⟨by decide +kernel, rfl⟩
theorem eX11_takeAt_46 : zd 3 cX11_takeAt 46 49 (.getfield 108) := ⟨by decide +kernel, rfl⟩
theorem eX11_takeAt_49 : zd 3 cX11_takeAt 49 52 (.putfield 97) := ⟨by decide +kernel, rfl⟩
theorem eX11_takeAt_52 : zd 1 cX11_takeAt 52 53 (.aload_n 0) := ⟨by decide +kernel, rfl⟩
theorem eX11_takeAt_53 : zd 1 cX11_takeAt 53 54 (.iconst 0) := ⟨by decide +kernel, rfl⟩
theorem eX11_takeAt_54 : zd 3 cX11_takeAt 54 57 (.sipush 999) := ⟨by decide +kernel, rfl⟩
theorem eX11_takeAt_57 : zd 3 cX11_takeAt 57 60 (.invokevirtual 138) := ⟨by decide +kernel, rfl⟩
theorem eX11_takeAt_60 : zd 1 cX11_takeAt 60 61 (.istore_n 1) := ⟨by decide +kernel, rfl⟩
theorem eX11_takeAt_61 : zd 1 cX11_takeAt 61 62 (.iload_n 1) := ⟨by decide +kernel, rfl⟩
theorem eX11_takeAt_62 : zdi cX11_takeAt 62 65 104 (.ifCond .ne) := ⟨42, by decide +kernel, rfl, by decide⟩
theorem eX11_takeAt_65 : zd 1 cX11_takeAt 65 66 (.aload_n 0) := ⟨by decide +kernel, rfl⟩
theorem eX11_takeAt_66 : zd 3 cX11_takeAt 66 69 (.getfield 181) := ⟨by decide +kernel, rfl⟩
theorem eX11_takeAt_69 : zdi cX11_takeAt 69 72 104 (.ifCond .le) := ⟨35, by decide +kernel, rfl, by decide⟩
theorem eX11_takeAt_72 : zd 1 cX11_takeAt 72 73 (.aload_n 0) := ⟨by decide +kernel, rfl⟩
theorem eX11_takeAt_73 : zd 3 cX11_takeAt 73 76 (.getfield 134) := ⟨by decide +kernel, rfl⟩
theorem eX11_takeAt_76 : zd 1 cX11_takeAt 76 77 (.aload_n 0) := ⟨by decide +kernel, rfl⟩
theorem eX11_takeAt_77 : zd 3 cX11_takeAt 77 80 (.getfield 48) := ⟨by decide +kernel, rfl⟩
theorem eX11_takeAt_80 : zd 1 cX11_takeAt 80 81 (.iconst 3) := ⟨by decide +kernel, rfl⟩
theorem eX11_takeAt_81 : zd 1 cX11_takeAt 81 82 (.aload_n 0) := ⟨by decide +kernel, rfl⟩
theorem eX11_takeAt_82 : zd 3 cX11_takeAt 82 85 (.getfield 181) := ⟨by decide +kernel, rfl⟩
theorem eX11_takeAt_85 : zd 1 cX11_takeAt 85 86 (.imul) := ⟨by decide +kernel, rfl⟩
theorem eX11_takeAt_86 : zd 1 cX11_takeAt 86 87 (.iconst 3) := ⟨by decide +kernel, rfl⟩
theorem eX11_takeAt_87 : zd 1 cX11_takeAt 87 88 (.isub) := ⟨by decide +kernel, rfl⟩
theorem eX11_takeAt_88 : zd 1 cX11_takeAt 88 89 (.iaload) := ⟨by decide +kernel, rfl⟩
theorem eX11_takeAt_89 : zdi cX11_takeAt 89 92 104 (.if_icmp .gt) := ⟨15, by decide +kernel, rfl, by decide⟩
theorem eX11_takeAt_92 : zd 1 cX11_takeAt 92 93 (.aload_n 0) := ⟨by decide +kernel, rfl⟩
theorem eX11_takeAt_93 : zd 1 cX11_takeAt 93 94 (.iconst 4) := ⟨by decide +kernel, rfl⟩
theorem eX11_takeAt_94 : zd 1 cX11_takeAt 94 95 (.aload_n 0) := ⟨by decide +kernel, rfl⟩
theorem eX11_takeAt_95 : zd 3 cX11_takeAt 95 98 (.getfield 131) := ⟨by decide +kernel, rfl⟩
theorem eX11_takeAt_98 : zd 3 cX11_takeAt 98 101 (.invokevirtual 127) := ⟨by decide +kernel, rfl⟩
theorem eX11_takeAt_101 : zdi cX11_takeAt 101 104 105 (.goto) := ⟨4, by decide +kernel, rfl, by decide⟩
theorem eX11_takeAt_104 : zd 1 cX11_takeAt 104 105 (.iload_n 1) := ⟨by decide +kernel, rfl⟩
theorem eX11_takeAt_105 : zd 1 cX11_takeAt 105 106 (.istore_n 1) := ⟨by decide +kernel, rfl⟩
theorem eX11_takeAt_106 : zd 1 cX11_takeAt 106 107 (.aload_n 0) := ⟨by decide +kernel, rfl⟩
theorem eX11_takeAt_107 : zd 3 cX11_takeAt 107 110 (.getfield 48) := ⟨by decide +kernel, rfl⟩
theorem eX11_takeAt_110 : zd 1 cX11_takeAt 110 111 (.iconst 3) := ⟨by decide +kernel, rfl⟩
theorem eX11_takeAt_111 : zd 1 cX11_takeAt 111 112 (.aload_n 0) := ⟨by decide +kernel, rfl⟩
theorem eX11_takeAt_112 : zd 3 cX11_takeAt 112 115 (.getfield 181) := ⟨by decide +kernel, rfl⟩
theorem eX11_takeAt_115 : zd 1 cX11_takeAt 115 116 (.imul) := ⟨by decide +kernel, rfl⟩
theorem eX11_takeAt_116 : zd 1 cX11_takeAt 116 117 (.aload_n 0) := ⟨by decide +kernel, rfl⟩
theorem eX11_takeAt_117 : zd 3 cX11_takeAt 117 120 (.getfield 134) := ⟨by decide +kernel, rfl⟩
theorem eX11_takeAt_120 : zd 1 cX11_takeAt 120 121 (.iastore) := ⟨by decide +kernel, rfl⟩
theorem eX11_takeAt_121 : zd 1 cX11_takeAt 121 122 (.iload_n 1) := ⟨by decide +kernel, rfl⟩
theorem eX11_takeAt_122 : zdi cX11_takeAt 122 125 129 (.ifCond .le) := ⟨7, by decide +kernel, rfl, by decide⟩
theorem eX11_takeAt_125 : zd 1 cX11_takeAt 125 126 (.iload_n 1) := ⟨by decide +kernel, rfl⟩
theorem eX11_takeAt_126 : zdi cX11_takeAt 126 129 136 (.goto) := ⟨10, by decide +kernel, rfl, by decide⟩
theorem eX11_takeAt_129 : zd 1 cX11_takeAt 129 130 (.aload_n 0) := ⟨by decide +kernel, rfl⟩
theorem eX11_takeAt_130 : zd 1 cX11_takeAt 130 131 (.iconst 0) := ⟨by decide +kernel, rfl⟩
theorem eX11_takeAt_131 : zd 2 cX11_takeAt 131 133 (.bipush 6) := ⟨by decide +kernel, rfl⟩
theorem eX11_takeAt_133 : zd 3 cX11_takeAt 133 136 (.invokevirtual 138) := ⟨by decide +kernel, rfl⟩
theorem eX11_takeAt_136 : zd 1 cX11_takeAt 136 137 (.istore_n 1) := ⟨by decide +kernel, rfl⟩
theorem eX11_takeAt_137 : zd 1 cX11_takeAt 137 138 (.aload_n 0) := ⟨by decide +kernel, rfl⟩
theorem eX11_takeAt_138 : zd 3 cX11_takeAt 138 141 (.getfield 48) := ⟨by decide +kernel, rfl⟩
theorem eX11_takeAt_141 : zd 1 cX11_takeAt 141 142 (.iconst 3) := ⟨by decide +kernel, rfl⟩
theorem eX11_takeAt_142 : zd 1 cX11_takeAt 142 143 (.aload_n 0) := ⟨by decide +kernel, rfl⟩
theorem eX11_takeAt_143 : zd 3 cX11_takeAt 143 146 (.getfield 181) := ⟨by decide +kernel, rfl⟩
theorem eX11_takeAt_146 : zd 1 cX11_takeAt 146 147 (.imul) := ⟨by decide +kernel, rfl⟩
theorem eX11_takeAt_147 : zd 1 cX11_takeAt 147 148 (.iconst 1) := ⟨by decide +kernel, rfl⟩
theorem eX11_takeAt_148 : zd 1 cX11_takeAt 148 149 (.iadd) := ⟨by decide +kernel, rfl⟩
theorem eX11_takeAt_149 : zd 1 cX11_takeAt 149 150 (.aload_n 0) := ⟨by decide +kernel, rfl⟩
theorem eX11_takeAt_150 : zd 3 cX11_takeAt 150 153 (.getfield 134) := ⟨by decide +kernel, rfl⟩
theorem eX11_takeAt_153 : zd 1 cX11_takeAt 153 154 (.iconst 3) := ⟨by decide +kernel, rfl⟩
theorem eX11_takeAt_154 : zd 1 cX11_takeAt 154 155 (.isub) := ⟨by decide +kernel, rfl⟩
theorem eX11_takeAt_155 : zd 1 cX11_takeAt 155 156 (.iastore) := ⟨by decide +kernel, rfl⟩
theorem eX11_takeAt_156 : zd 1 cX11_takeAt 156 157 (.iload_n 1) := ⟨by decide +kernel, rfl⟩
theorem eX11_takeAt_157 : zdi cX11_takeAt 157 160 164 (.ifCond .le) := ⟨7, by decide +kernel, rfl, by decide⟩
theorem eX11_takeAt_160 : zd 1 cX11_takeAt 160 161 (.iload_n 1) := ⟨by decide +kernel, rfl⟩
theorem eX11_takeAt_161 : zdi cX11_takeAt 161 164 171 (.goto) := ⟨10, by decide +kernel, rfl, by decide⟩
theorem eX11_takeAt_164 : zd 1 cX11_takeAt 164 165 (.aload_n 0) := ⟨by decide +kernel, rfl⟩
theorem eX11_takeAt_165 : zd 1 cX11_takeAt 165 166 (.iconst 0) := ⟨by decide +kernel, rfl⟩
theorem eX11_takeAt_166 : zd 2 cX11_takeAt 166 168 (.bipush 6) := ⟨by decide +kernel, rfl⟩
theorem eX11_takeAt_168 : zd 3 cX11_takeAt 168 171 (.invokevirtual 138) := ⟨by decide +kernel, rfl⟩
theorem eX11_takeAt_171 : zd 1 cX11_takeAt 171 172 (.istore_n 1) := ⟨by decide +kernel, rfl⟩
theorem eX11_takeAt_172 : zd 1 cX11_takeAt 172 173 (.aload_n 0) := ⟨by decide +kernel, rfl⟩
theorem eX11_takeAt_173 : zd 3 cX11_takeAt 173 176 (.getfield 48) := ⟨by decide +kernel, rfl⟩
theorem eX11_takeAt_176 : zd 1 cX11_takeAt 176 177 (.iconst 3) := ⟨by decide +kernel, rfl⟩
theorem eX11_takeAt_177 : zd 1 cX11_takeAt 177 178 (.aload_n 0) := ⟨by decide +kernel, rfl⟩
theorem eX11_takeAt_178 : zd 3 cX11_takeAt 178 181 (.getfield 181) := ⟨by decide +kernel, rfl⟩
theorem eX11_takeAt_181 : zd 1 cX11_takeAt 181 182 (.imul) := ⟨by decide +kernel, rfl⟩
theorem eX11_takeAt_182 : zd 1 cX11_takeAt 182 183 (.iconst 2) := ⟨by decide +kernel, rfl⟩
theorem eX11_takeAt_183 : zd 1 cX11_takeAt 183 184 (.iadd) := ⟨by decide +kernel, rfl⟩
theorem eX11_takeAt_184 : zd 1 cX11_takeAt 184 185 (.aload_n 0) := ⟨by decide +kernel, rfl⟩
theorem eX11_takeAt_185 : zd 3 cX11_takeAt 185 188 (.getfield 134) := ⟨by decide +kernel, rfl⟩
theorem eX11_takeAt_188 : zd 1 cX11_takeAt 188 189 (.iconst 3) := ⟨by decide +kernel, rfl⟩
theorem eX11_takeAt_189 : zd 1 cX11_takeAt 189 190 (.isub) := ⟨by decide +kernel, rfl⟩
theorem eX11_takeAt_190 : zd 1 cX11_takeAt 190 191 (.iastore) := ⟨by decide +kernel, rfl⟩
theorem eX11_takeAt_191 : zd 1 cX11_takeAt 191 192 (.aload_n 0) := ⟨by decide +kernel, rfl⟩
theorem eX11_takeAt_192 : zd 1 cX11_takeAt 192 193 (.dup) := ⟨by decide +kernel, rfl⟩
theorem eX11_takeAt_193 : zd 3 cX11_takeAt 193 196 (.getfield 181) := ⟨by decide +kernel, rfl⟩
theorem eX11_takeAt_196 : zd 1 cX11_takeAt 196 197 (.iconst 1) := ⟨by decide +kernel, rfl⟩
theorem eX11_takeAt_197 : zd 1 cX11_takeAt 197 198 (.iadd) := ⟨by decide +kernel, rfl⟩
theorem eX11_takeAt_198 : zd 3 cX11_takeAt 198 201 (.putfield 181) := ⟨by decide +kernel, rfl⟩
theorem eX11_takeAt_201 : zd 1 cX11_takeAt 201 202 (.iload_n 1) := ⟨by decide +kernel, rfl⟩
theorem eX11_takeAt_202 : zdi cX11_takeAt 202 205 209 (.ifCond .le) := ⟨7, by decide +kernel, rfl, by decide⟩
theorem eX11_takeAt_205 : zd 1 cX11_takeAt 205 206 (.iload_n 1) := ⟨by decide +kernel, rfl⟩
theorem eX11_takeAt_206 : zdi cX11_takeAt 206 209 213 (.goto) := ⟨7, by decide +kernel, rfl, by decide⟩
theorem eX11_takeAt_209 : zd 1 cX11_takeAt 209 210 (.aload_n 0) := ⟨by decide +kernel, rfl⟩
theorem eX11_takeAt_210 : zd 3 cX11_takeAt 210 213 (.invokevirtual 170) := ⟨by decide +kernel, rfl⟩
theorem eX11_takeAt_213 : zd 1 cX11_takeAt 213 214 (.ireturn) := ⟨by decide +kernel, rfl⟩
theorem FX11_48 : zlF RX11 48 11 23 := ⟨(RX11, TX11, 34), rfl, by decide, q1094, zin11⟩
theorem FX11_181 : zlF RX11 181 11 24 := ⟨(RX11, TX11, 34), rfl, by decide, q1095, zin11⟩
theorem PX11_181 : zlP RX11 181 11 24 .int := ⟨(RX11, TX11, 34), tyX11, rfl, by decide, q1095, zin11, tyX11_ok, nmX11, rfl, by decide +kernel⟩
theorem MX11_138 : zlV RX11 138 yX11_takeNumber cX11_takeNumber 4 ((Option.some FieldType.int)) 2 := ⟨q1227, q1229, qs32, q12, q1230, by decide, by decide, by decide +kernel⟩
theorem MX11_154 : zlV RX11 154 yX11_readWord cX11_readWord 2 (none) 0 := ⟨q1198, q1200, qs28, q12, q1201, by decide, by decide, by decide +kernel⟩
theorem MX11_170 : zlV RX11 170 yX11_takeStop cX11_takeStop 1 ((Option.some FieldType.int)) 0 := ⟨q1238, q1240, qs34, q12, q1241, by decide, by decide, by decide +kernel⟩
noncomputable def f_Mo_takeAt (v0 : tMo)  : Option (Int32 × (Nat → Int32) × Int64 × (Nat → Int32)) := (Option.bind (f_Mo_readWord v0) (fun (r1 : (Nat → Int32) × Int64) => (if (r1.2) = 47 then (if ((r1.1) 24) = 20 then (zlet (f_Mo_fails ((r1.1), (gMo_told v0), (gMo_postX v0), (gMo_postStrong v0), (gMo_atRow v0), (gMo_heights v0), (gMo_ship v0), (gMo_lines v0), (gMo_text v0), (r1.2), (gMo_readTold v0), (gMo_readX v0), (gMo_readStrong v0), (gMo_readRow v0), (gMo_parting v0), (gMo_wasShip v0), (gMo_wasLines v0), (gMo_worst v0), (gMo_logRow v0), (gMo_images v0), (gMo_isKept v0)) 3 ((r1.1) 13)) (fun (r4 : Int32 × (Nat → Int32)) => (some ((r4.1), (r4.2), (r1.2), (gMo_readRow v0))))) else (Option.bind (f_Mo_takeNumber ((upd (r1.1) 13 ((r1.1) 15)), (gMo_told v0), (gMo_postX v0), (gMo_postStrong v0), (gMo_atRow v0), (gMo_heights v0), (gMo_ship v0), (gMo_lines v0), (gMo_text v0), (r1.2), (gMo_readTold v0), (gMo_readX v0), (gMo_readStrong v0), (gMo_readRow v0), (gMo_parting v0), (gMo_wasShip v0), (gMo_wasLines v0), (gMo_worst v0), (gMo_logRow v0), (gMo_images v0), (gMo_isKept v0)) 0 999) (fun (r5 : Int32 × (Nat → Int32)) => (Option.bind (if (r5.1) = 0 then (if ((r5.2) 24) ≤ 0 then (some ((r5.1), (r5.2))) else (if inb ((3 * ((r5.2) 24)) - 3) 60 = true then (if ((gMo_readRow v0) (ix ((3 * ((r5.2) 24)) - 3))) < ((r5.2) 16) then (some ((r5.1), (r5.2))) else (zlet (f_Mo_fails ((r5.2), (gMo_told v0), (gMo_postX v0), (gMo_postStrong v0), (gMo_atRow v0), (gMo_heights v0), (gMo_ship v0), (gMo_lines v0), (gMo_text v0), (r1.2), (gMo_readTold v0), (gMo_readX v0), (gMo_readStrong v0), (gMo_readRow v0), (gMo_parting v0), (gMo_wasShip v0), (gMo_wasLines v0), (gMo_worst v0), (gMo_logRow v0), (gMo_images v0), (gMo_isKept v0)) 4 ((r5.2) 17)) (fun (r12 : Int32 × (Nat → Int32)) => (some ((r12.1), (r12.2)))))) else none)) else (some ((r5.1), (r5.2)))) (fun (w6 : Int32 × (Nat → Int32)) => (if inb (3 * ((w6.2) 24)) 60 = true then (Option.bind (if (w6.1) ≤ 0 then (Option.bind (f_Mo_takeNumber ((w6.2), (gMo_told v0), (gMo_postX v0), (gMo_postStrong v0), (gMo_atRow v0), (gMo_heights v0), (gMo_ship v0), (gMo_lines v0), (gMo_text v0), (r1.2), (gMo_readTold v0), (gMo_readX v0), (gMo_readStrong v0), (upd (gMo_readRow v0) (ix (3 * ((w6.2) 24))) ((w6.2) 16)), (gMo_parting v0), (gMo_wasShip v0), (gMo_wasLines v0), (gMo_worst v0), (gMo_logRow v0), (gMo_images v0), (gMo_isKept v0)) 0 6) (fun (r17 : Int32 × (Nat → Int32)) => (some ((r17.1), (r17.2))))) else (some ((w6.1), (w6.2)))) (fun (w14 : Int32 × (Nat → Int32)) => (zlet (((w14.2) 16) - 3) (fun (z18 : Int32) => (if inb ((3 * ((w14.2) 24)) + 1) 60 = true then (Option.bind (if (w14.1) ≤ 0 then (Option.bind (f_Mo_takeNumber ((w14.2), (gMo_told v0), (gMo_postX v0), (gMo_postStrong v0), (gMo_atRow v0), (gMo_heights v0), (gMo_ship v0), (gMo_lines v0), (gMo_text v0), (r1.2), (gMo_readTold v0), (gMo_readX v0), (gMo_readStrong v0), (upd (upd (gMo_readRow v0) (ix (3 * ((w6.2) 24))) ((w6.2) 16)) (ix ((3 * ((w14.2) 24)) + 1)) z18), (gMo_parting v0), (gMo_wasShip v0), (gMo_wasLines v0), (gMo_worst v0), (gMo_logRow v0), (gMo_images v0), (gMo_isKept v0)) 0 6) (fun (r23 : Int32 × (Nat → Int32)) => (some ((r23.1), (r23.2))))) else (some ((w14.1), (w14.2)))) (fun (w20 : Int32 × (Nat → Int32)) => (zlet (((w20.2) 16) - 3) (fun (z24 : Int32) => (if inb ((3 * ((w20.2) 24)) + 2) 60 = true then (zlet (((w20.2) 24) + 1) (fun (z26 : Int32) => (if (w20.1) ≤ 0 then (Option.bind (f_Mo_takeStop ((upd (w20.2) 24 z26), (gMo_told v0), (gMo_postX v0), (gMo_postStrong v0), (gMo_atRow v0), (gMo_heights v0), (gMo_ship v0), (gMo_lines v0), (gMo_text v0), (r1.2), (gMo_readTold v0), (gMo_readX v0), (gMo_readStrong v0), (upd (upd (upd (gMo_readRow v0) (ix (3 * ((w6.2) 24))) ((w6.2) 16)) (ix ((3 * ((w14.2) 24)) + 1)) z18) (ix ((3 * ((w20.2) 24)) + 2)) z24), (gMo_parting v0), (gMo_wasShip v0), (gMo_wasLines v0), (gMo_worst v0), (gMo_logRow v0), (gMo_images v0), (gMo_isKept v0))) (fun (r28 : Int32 × (Nat → Int32)) => (some ((r28.1), (r28.2), (r1.2), (upd (upd (upd (gMo_readRow v0) (ix (3 * ((w6.2) 24))) ((w6.2) 16)) (ix ((3 * ((w14.2) 24)) + 1)) z18) (ix ((3 * ((w20.2) 24)) + 2)) z24))))) else (some ((w20.1), (upd (w20.2) 24 z26), (r1.2), (upd (upd (upd (gMo_readRow v0) (ix (3 * ((w6.2) 24))) ((w6.2) 16)) (ix ((3 * ((w14.2) 24)) + 1)) z18) (ix ((3 * ((w20.2) 24)) + 2)) z24)))))) else none))))) else none))))) else none)))))) else (zlet (f_Mo_fails ((r1.1), (gMo_told v0), (gMo_postX v0), (gMo_postStrong v0), (gMo_atRow v0), (gMo_heights v0), (gMo_ship v0), (gMo_lines v0), (gMo_text v0), (r1.2), (gMo_readTold v0), (gMo_readX v0), (gMo_readStrong v0), (gMo_readRow v0), (gMo_parting v0), (gMo_wasShip v0), (gMo_wasLines v0), (gMo_worst v0), (gMo_logRow v0), (gMo_images v0), (gMo_isKept v0)) 1 ((r1.1) 13)) (fun (r29 : Int32 × (Nat → Int32)) => (some ((r29.1), (r29.2), (r1.2), (gMo_readRow v0))))))))
abbrev rm_Mo_takeAt : Room := { frames := 2, cells := 0, slots := 0, locals := 48 }
set_option maxHeartbeats 4000000 in
set_option maxRecDepth 100000 in
theorem c_Mo_takeAt (l : Launch) (g : zGl) (a0 : Nat → Nat) (o0 : Nat) (v0 : tMo)  (out : Int32 × (Nat → Int32) × Int64 × (Nat → Int32)) (hf : f_Mo_takeAt v0 = some out) : zMi l yX11_takeAt cX11_takeAt 2 rm_Mo_takeAt g [.ref (a0 o0)] (W_Mo g a0 o0 (gMo_ints v0) (gMo_told v0) (gMo_postX v0) (gMo_postStrong v0) (gMo_atRow v0) (gMo_heights v0) (gMo_ship v0) (gMo_lines v0) (gMo_text v0) (gMo_said v0) (gMo_readTold v0) (gMo_readX v0) (gMo_readStrong v0) (gMo_readRow v0) (gMo_parting v0) (gMo_wasShip v0) (gMo_wasLines v0) (gMo_worst v0) (gMo_logRow v0) (gMo_images v0) (gMo_isKept v0)) (out.1) (W_Mo g a0 o0 (out.2.1) (gMo_told v0) (gMo_postX v0) (gMo_postStrong v0) (gMo_atRow v0) (gMo_heights v0) (gMo_ship v0) (gMo_lines v0) (gMo_text v0) (out.2.2.1) (gMo_readTold v0) (gMo_readX v0) (gMo_readStrong v0) (out.2.2.2) (gMo_parting v0) (gMo_wasShip v0) (gMo_wasLines v0) (gMo_worst v0) (gMo_logRow v0) (gMo_images v0) (gMo_isKept v0)) := by
  refine zMi_of (lv := [(0, .ref (a0 o0))]) (by decide) (Nat.le_of_ble_eq_true rfl) rfl (fun x hl hg C hret => ?_)
  subst hl; subst hg
  rw [f_Mo_takeAt] at hf
  refine r_aload_n C eX11_takeAt_0 0 rfl rfl ?_
  obtain ⟨r1, hr1, hf⟩ := zbind hf
  refine r_V_v (ws' := W_Mo (z_g x) a0 o0 (r1.1) (gMo_told v0) (gMo_postX v0) (gMo_postStrong v0) (gMo_atRow v0) (gMo_heights v0) (gMo_ship v0) (gMo_lines v0) (gMo_text v0) (r1.2) (gMo_readTold v0) (gMo_readX v0) (gMo_readStrong v0) (gMo_readRow v0) (gMo_parting v0) (gMo_wasShip v0) (gMo_wasLines v0) (gMo_worst v0) (gMo_logRow v0) (gMo_images v0) (gMo_isKept v0)) C (c_Mo_readWord (z_l x) (z_g x) a0 o0 v0  r1 hr1) eX11_takeAt_1 MX11_154 ⟨0, 11, _, _, rfl, rfl, rfl⟩ [0, 1, 2, 3, 4, 5, 6, 7, 8, 9, 10, 11, 12, 13, 14, 15, 16, 17, 18, 19] rfl rfl rfl rfl [] rfl trivial 20 rfl rfl rfl rfl rfl rfl ?_
  refine r_aload_n C eX11_takeAt_4 0 rfl rfl ?_
  refine r_get (v := .long (r1.2)) C eX11_takeAt_5 FX11_104 0 rfl rfl ?_
  refine r_ldc2 C (v := 47) eX11_takeAt_8 q1250 ?_
  refine r_lcmp_eq C eX11_takeAt_11 eX11_takeAt_12 (fun c2 => ?_) (fun c2 => ?_)
  · rw [if_pos c2] at hf
    refine r_aload_n C eX11_takeAt_25 0 rfl rfl ?_
    refine r_get (v := .int ((r1.1) 24)) C eX11_takeAt_26 FX11_181 0 rfl rfl ?_
    refine r_bipush C (v := 20) eX11_takeAt_29 (by decide) ?_
    refine r_icmp_ne C eX11_takeAt_31 (fun c3 => ?_) (fun c3 => ?_)
    · rw [if_neg c3] at hf
      refine r_aload_n C eX11_takeAt_44 0 rfl rfl ?_
      refine r_aload_n C eX11_takeAt_45 0 rfl rfl ?_
      refine r_get (v := .int ((r1.1) 15)) C eX11_takeAt_46 FX11_108 0 rfl rfl ?_
      refine r_put (ws' := W_Mo (z_g x) a0 o0 (upd (r1.1) 13 ((r1.1) 15)) (gMo_told v0) (gMo_postX v0) (gMo_postStrong v0) (gMo_atRow v0) (gMo_heights v0) (gMo_ship v0) (gMo_lines v0) (gMo_text v0) (r1.2) (gMo_readTold v0) (gMo_readX v0) (gMo_readStrong v0) (gMo_readRow v0) (gMo_parting v0) (gMo_wasShip v0) (gMo_wasLines v0) (gMo_worst v0) (gMo_logRow v0) (gMo_images v0) (gMo_isKept v0)) C eX11_takeAt_49 PX11_97 0 rfl rfl rfl (Nat.le_of_ble_eq_true rfl) rfl ?_
      refine r_aload_n C eX11_takeAt_52 0 rfl rfl ?_
      refine r_iconst C (v := 0) eX11_takeAt_53 (by decide) ?_
      refine r_sipush C (v := 999) eX11_takeAt_54 (by decide) ?_
      obtain ⟨r5, hr5, hf⟩ := zbind hf
      refine r_V_i (ws' := W_Mo (z_g x) a0 o0 (r5.2) (gMo_told v0) (gMo_postX v0) (gMo_postStrong v0) (gMo_atRow v0) (gMo_heights v0) (gMo_ship v0) (gMo_lines v0) (gMo_text v0) (r1.2) (gMo_readTold v0) (gMo_readX v0) (gMo_readStrong v0) (gMo_readRow v0) (gMo_parting v0) (gMo_wasShip v0) (gMo_wasLines v0) (gMo_worst v0) (gMo_logRow v0) (gMo_images v0) (gMo_isKept v0)) C (c_Mo_takeNumber (z_l x) (z_g x) a0 o0 ((upd (r1.1) 13 ((r1.1) 15)), (gMo_told v0), (gMo_postX v0), (gMo_postStrong v0), (gMo_atRow v0), (gMo_heights v0), (gMo_ship v0), (gMo_lines v0), (gMo_text v0), (r1.2), (gMo_readTold v0), (gMo_readX v0), (gMo_readStrong v0), (gMo_readRow v0), (gMo_parting v0), (gMo_wasShip v0), (gMo_wasLines v0), (gMo_worst v0), (gMo_logRow v0), (gMo_images v0), (gMo_isKept v0)) 0 999 r5 hr5) eX11_takeAt_57 MX11_138 ⟨0, 11, _, _, rfl, rfl, rfl⟩ [0, 1, 2, 3, 4, 5, 6, 7, 8, 9, 10, 11, 12, 13, 14, 15, 16, 17, 18, 19] rfl rfl rfl rfl [] rfl trivial 20 rfl rfl rfl rfl rfl rfl ?_
      refine r_istore_n C [(1, .int (r5.1)), (0, .ref (a0 o0))] eX11_takeAt_60 rfl (by decide) rfl ?_
      refine r_iload_n C eX11_takeAt_61 0 rfl rfl ?_
      obtain ⟨w6, hw6, hf⟩ := zbind hf
      have J7 : vV x 2 0 0 (W_Mo (z_g x) a0 o0 (w6.2) (gMo_told v0) (gMo_postX v0) (gMo_postStrong v0) (gMo_atRow v0) (gMo_heights v0) (gMo_ship v0) (gMo_lines v0) (gMo_text v0) (r1.2) (gMo_readTold v0) (gMo_readX v0) (gMo_readStrong v0) (gMo_readRow v0) (gMo_parting v0) (gMo_wasShip v0) (gMo_wasLines v0) (gMo_worst v0) (gMo_logRow v0) (gMo_images v0) (gMo_isKept v0)) 105 [(0, .ref (a0 o0))] [.int (w6.1)] := by
        refine r_istore_n C [(1, .int (w6.1)), (0, .ref (a0 o0))] eX11_takeAt_105 rfl (by decide) rfl ?_
        refine r_aload_n C eX11_takeAt_106 1 rfl rfl ?_
        refine r_get (v := .ref (a0 (o0 + 12))) C eX11_takeAt_107 FX11_48 0 rfl rfl ?_
        refine r_iconst C (v := 3) eX11_takeAt_110 (by decide) ?_
        refine r_aload_n C eX11_takeAt_111 1 rfl rfl ?_
        refine r_get (v := .int ((w6.2) 24)) C eX11_takeAt_112 FX11_181 0 rfl rfl ?_
        refine r_imul C eX11_takeAt_115 ?_
        refine r_aload_n C eX11_takeAt_116 1 rfl rfl ?_
        refine r_get (v := .int ((w6.2) 16)) C eX11_takeAt_117 FX11_134 0 rfl rfl ?_
        obtain ⟨hb13, hf⟩ := zchk hf
        refine r_iast (ws' := W_Mo (z_g x) a0 o0 (w6.2) (gMo_told v0) (gMo_postX v0) (gMo_postStrong v0) (gMo_atRow v0) (gMo_heights v0) (gMo_ship v0) (gMo_lines v0) (gMo_text v0) (r1.2) (gMo_readTold v0) (gMo_readX v0) (gMo_readStrong v0) (upd (gMo_readRow v0) (ix (3 * ((w6.2) 24))) ((w6.2) 16)) (gMo_parting v0) (gMo_wasShip v0) (gMo_wasLines v0) (gMo_worst v0) (gMo_logRow v0) (gMo_images v0) (gMo_isKept v0)) C eX11_takeAt_120 12 rfl (inb_in hb13) rfl ?_
        refine r_iload_n C eX11_takeAt_121 0 rfl rfl ?_
        obtain ⟨w14, hw14, hf⟩ := zbind hf
        have J15 : vV x 2 0 0 (W_Mo (z_g x) a0 o0 (w14.2) (gMo_told v0) (gMo_postX v0) (gMo_postStrong v0) (gMo_atRow v0) (gMo_heights v0) (gMo_ship v0) (gMo_lines v0) (gMo_text v0) (r1.2) (gMo_readTold v0) (gMo_readX v0) (gMo_readStrong v0) (upd (gMo_readRow v0) (ix (3 * ((w6.2) 24))) ((w6.2) 16)) (gMo_parting v0) (gMo_wasShip v0) (gMo_wasLines v0) (gMo_worst v0) (gMo_logRow v0) (gMo_images v0) (gMo_isKept v0)) 136 [(0, .ref (a0 o0))] [.int (w14.1)] := by
          refine r_istore_n C [(1, .int (w14.1)), (0, .ref (a0 o0))] eX11_takeAt_136 rfl (by decide) rfl ?_
          refine r_aload_n C eX11_takeAt_137 1 rfl rfl ?_
          refine r_get (v := .ref (a0 (o0 + 12))) C eX11_takeAt_138 FX11_48 0 rfl rfl ?_
          refine r_iconst C (v := 3) eX11_takeAt_141 (by decide) ?_
          refine r_aload_n C eX11_takeAt_142 1 rfl rfl ?_
          refine r_get (v := .int ((w14.2) 24)) C eX11_takeAt_143 FX11_181 0 rfl rfl ?_
          refine r_imul C eX11_takeAt_146 ?_
          refine r_iconst C (v := 1) eX11_takeAt_147 (by decide) ?_
          refine r_iadd C eX11_takeAt_148 ?_
          refine r_aload_n C eX11_takeAt_149 1 rfl rfl ?_
          refine r_get (v := .int ((w14.2) 16)) C eX11_takeAt_150 FX11_134 0 rfl rfl ?_
          refine r_iconst C (v := 3) eX11_takeAt_153 (by decide) ?_
          refine r_isub C eX11_takeAt_154 ?_
          obtain ⟨z18, hz18, hf⟩ := zlet_of hf
          refine r_nami hz18 ?_
          obtain ⟨hb19, hf⟩ := zchk hf
          refine r_iast (ws' := W_Mo (z_g x) a0 o0 (w14.2) (gMo_told v0) (gMo_postX v0) (gMo_postStrong v0) (gMo_atRow v0) (gMo_heights v0) (gMo_ship v0) (gMo_lines v0) (gMo_text v0) (r1.2) (gMo_readTold v0) (gMo_readX v0) (gMo_readStrong v0) (upd (upd (gMo_readRow v0) (ix (3 * ((w6.2) 24))) ((w6.2) 16)) (ix ((3 * ((w14.2) 24)) + 1)) z18) (gMo_parting v0) (gMo_wasShip v0) (gMo_wasLines v0) (gMo_worst v0) (gMo_logRow v0) (gMo_images v0) (gMo_isKept v0)) C eX11_takeAt_155 12 rfl (inb_in hb19) rfl ?_
          refine r_iload_n C eX11_takeAt_156 0 rfl rfl ?_
          obtain ⟨w20, hw20, hf⟩ := zbind hf
          have J21 : vV x 2 0 0 (W_Mo (z_g x) a0 o0 (w20.2) (gMo_told v0) (gMo_postX v0) (gMo_postStrong v0) (gMo_atRow v0) (gMo_heights v0) (gMo_ship v0) (gMo_lines v0) (gMo_text v0) (r1.2) (gMo_readTold v0) (gMo_readX v0) (gMo_readStrong v0) (upd (upd (gMo_readRow v0) (ix (3 * ((w6.2) 24))) ((w6.2) 16)) (ix ((3 * ((w14.2) 24)) + 1)) z18) (gMo_parting v0) (gMo_wasShip v0) (gMo_wasLines v0) (gMo_worst v0) (gMo_logRow v0) (gMo_images v0) (gMo_isKept v0)) 171 [(0, .ref (a0 o0))] [.int (w20.1)] := by
            refine r_istore_n C [(1, .int (w20.1)), (0, .ref (a0 o0))] eX11_takeAt_171 rfl (by decide) rfl ?_
            refine r_aload_n C eX11_takeAt_172 1 rfl rfl ?_
            refine r_get (v := .ref (a0 (o0 + 12))) C eX11_takeAt_173 FX11_48 0 rfl rfl ?_
            refine r_iconst C (v := 3) eX11_takeAt_176 (by decide) ?_
            refine r_aload_n C eX11_takeAt_177 1 rfl rfl ?_
            refine r_get (v := .int ((w20.2) 24)) C eX11_takeAt_178 FX11_181 0 rfl rfl ?_
            refine r_imul C eX11_takeAt_181 ?_
            refine r_iconst C (v := 2) eX11_takeAt_182 (by decide) ?_
            refine r_iadd C eX11_takeAt_183 ?_
            refine r_aload_n C eX11_takeAt_184 1 rfl rfl ?_
            refine r_get (v := .int ((w20.2) 16)) C eX11_takeAt_185 FX11_134 0 rfl rfl ?_
            refine r_iconst C (v := 3) eX11_takeAt_188 (by decide) ?_
            refine r_isub C eX11_takeAt_189 ?_
            obtain ⟨z24, hz24, hf⟩ := zlet_of hf
            refine r_nami hz24 ?_
            obtain ⟨hb25, hf⟩ := zchk hf
            refine r_iast (ws' := W_Mo (z_g x) a0 o0 (w20.2) (gMo_told v0) (gMo_postX v0) (gMo_postStrong v0) (gMo_atRow v0) (gMo_heights v0) (gMo_ship v0) (gMo_lines v0) (gMo_text v0) (r1.2) (gMo_readTold v0) (gMo_readX v0) (gMo_readStrong v0) (upd (upd (upd (gMo_readRow v0) (ix (3 * ((w6.2) 24))) ((w6.2) 16)) (ix ((3 * ((w14.2) 24)) + 1)) z18) (ix ((3 * ((w20.2) 24)) + 2)) z24) (gMo_parting v0) (gMo_wasShip v0) (gMo_wasLines v0) (gMo_worst v0) (gMo_logRow v0) (gMo_images v0) (gMo_isKept v0)) C eX11_takeAt_190 12 rfl (inb_in hb25) rfl ?_
            refine r_aload_n C eX11_takeAt_191 1 rfl rfl ?_
            refine r_dup C eX11_takeAt_192 rfl ?_
            refine r_get (v := .int ((w20.2) 24)) C eX11_takeAt_193 FX11_181 0 rfl rfl ?_
            refine r_iconst C (v := 1) eX11_takeAt_196 (by decide) ?_
            refine r_iadd C eX11_takeAt_197 ?_
            obtain ⟨z26, hz26, hf⟩ := zlet_of hf
            refine r_nami hz26 ?_
            refine r_put (ws' := W_Mo (z_g x) a0 o0 (upd (w20.2) 24 z26) (gMo_told v0) (gMo_postX v0) (gMo_postStrong v0) (gMo_atRow v0) (gMo_heights v0) (gMo_ship v0) (gMo_lines v0) (gMo_text v0) (r1.2) (gMo_readTold v0) (gMo_readX v0) (gMo_readStrong v0) (upd (upd (upd (gMo_readRow v0) (ix (3 * ((w6.2) 24))) ((w6.2) 16)) (ix ((3 * ((w14.2) 24)) + 1)) z18) (ix ((3 * ((w20.2) 24)) + 2)) z24) (gMo_parting v0) (gMo_wasShip v0) (gMo_wasLines v0) (gMo_worst v0) (gMo_logRow v0) (gMo_images v0) (gMo_isKept v0)) C eX11_takeAt_198 PX11_181 0 rfl rfl rfl (Nat.le_of_ble_eq_true rfl) rfl ?_
            refine r_iload_n C eX11_takeAt_201 0 rfl rfl ?_
            refine r_if_le C eX11_takeAt_202 (fun c27 => ?_) (fun c27 => ?_)
            · rw [if_pos c27] at hf
              refine r_aload_n C eX11_takeAt_209 1 rfl rfl ?_
              obtain ⟨r28, hr28, hf⟩ := zbind hf
              refine r_V_i (ws' := W_Mo (z_g x) a0 o0 (r28.2) (gMo_told v0) (gMo_postX v0) (gMo_postStrong v0) (gMo_atRow v0) (gMo_heights v0) (gMo_ship v0) (gMo_lines v0) (gMo_text v0) (r1.2) (gMo_readTold v0) (gMo_readX v0) (gMo_readStrong v0) (upd (upd (upd (gMo_readRow v0) (ix (3 * ((w6.2) 24))) ((w6.2) 16)) (ix ((3 * ((w14.2) 24)) + 1)) z18) (ix ((3 * ((w20.2) 24)) + 2)) z24) (gMo_parting v0) (gMo_wasShip v0) (gMo_wasLines v0) (gMo_worst v0) (gMo_logRow v0) (gMo_images v0) (gMo_isKept v0)) C (c_Mo_takeStop (z_l x) (z_g x) a0 o0 ((upd (w20.2) 24 z26), (gMo_told v0), (gMo_postX v0), (gMo_postStrong v0), (gMo_atRow v0), (gMo_heights v0), (gMo_ship v0), (gMo_lines v0), (gMo_text v0), (r1.2), (gMo_readTold v0), (gMo_readX v0), (gMo_readStrong v0), (upd (upd (upd (gMo_readRow v0) (ix (3 * ((w6.2) 24))) ((w6.2) 16)) (ix ((3 * ((w14.2) 24)) + 1)) z18) (ix ((3 * ((w20.2) 24)) + 2)) z24), (gMo_parting v0), (gMo_wasShip v0), (gMo_wasLines v0), (gMo_worst v0), (gMo_logRow v0), (gMo_images v0), (gMo_isKept v0))  r28 hr28) eX11_takeAt_210 MX11_170 ⟨0, 11, _, _, rfl, rfl, rfl⟩ [0, 1, 2, 3, 4, 5, 6, 7, 8, 9, 10, 11, 12, 13, 14, 15, 16, 17, 18, 19] rfl rfl rfl rfl [] rfl trivial 20 rfl rfl rfl rfl rfl rfl ?_
              obtain rfl := Option.some.inj (show some (((r28.1), (r28.2), (r1.2), (upd (upd (upd (gMo_readRow v0) (ix (3 * ((w6.2) 24))) ((w6.2) 16)) (ix ((3 * ((w14.2) 24)) + 1)) z18) (ix ((3 * ((w20.2) 24)) + 2)) z24)) : Int32 × (Nat → Int32) × Int64 × (Nat → Int32)) = some _ from hf)
              exact hret _ _ _ eX11_takeAt_213
            · rw [if_neg c27] at hf
              refine r_iload_n C eX11_takeAt_205 0 rfl rfl ?_
              refine r_goto C eX11_takeAt_206 ?_
              obtain rfl := Option.some.inj (show some (((w20.1), (upd (w20.2) 24 z26), (r1.2), (upd (upd (upd (gMo_readRow v0) (ix (3 * ((w6.2) 24))) ((w6.2) 16)) (ix ((3 * ((w14.2) 24)) + 1)) z18) (ix ((3 * ((w20.2) 24)) + 2)) z24)) : Int32 × (Nat → Int32) × Int64 × (Nat → Int32)) = some _ from hf)
              exact hret _ _ _ eX11_takeAt_213
          refine r_if_le C eX11_takeAt_157 (fun c22 => ?_) (fun c22 => ?_)
          · rw [if_pos c22] at hw20
            refine r_aload_n C eX11_takeAt_164 1 rfl rfl ?_
            refine r_iconst C (v := 0) eX11_takeAt_165 (by decide) ?_
            refine r_bipush C (v := 6) eX11_takeAt_166 (by decide) ?_
            obtain ⟨r23, hr23, hw20⟩ := zbind hw20
            refine r_V_i (ws' := W_Mo (z_g x) a0 o0 (r23.2) (gMo_told v0) (gMo_postX v0) (gMo_postStrong v0) (gMo_atRow v0) (gMo_heights v0) (gMo_ship v0) (gMo_lines v0) (gMo_text v0) (r1.2) (gMo_readTold v0) (gMo_readX v0) (gMo_readStrong v0) (upd (upd (gMo_readRow v0) (ix (3 * ((w6.2) 24))) ((w6.2) 16)) (ix ((3 * ((w14.2) 24)) + 1)) z18) (gMo_parting v0) (gMo_wasShip v0) (gMo_wasLines v0) (gMo_worst v0) (gMo_logRow v0) (gMo_images v0) (gMo_isKept v0)) C (c_Mo_takeNumber (z_l x) (z_g x) a0 o0 ((w14.2), (gMo_told v0), (gMo_postX v0), (gMo_postStrong v0), (gMo_atRow v0), (gMo_heights v0), (gMo_ship v0), (gMo_lines v0), (gMo_text v0), (r1.2), (gMo_readTold v0), (gMo_readX v0), (gMo_readStrong v0), (upd (upd (gMo_readRow v0) (ix (3 * ((w6.2) 24))) ((w6.2) 16)) (ix ((3 * ((w14.2) 24)) + 1)) z18), (gMo_parting v0), (gMo_wasShip v0), (gMo_wasLines v0), (gMo_worst v0), (gMo_logRow v0), (gMo_images v0), (gMo_isKept v0)) 0 6 r23 hr23) eX11_takeAt_168 MX11_138 ⟨0, 11, _, _, rfl, rfl, rfl⟩ [0, 1, 2, 3, 4, 5, 6, 7, 8, 9, 10, 11, 12, 13, 14, 15, 16, 17, 18, 19] rfl rfl rfl rfl [] rfl trivial 20 rfl rfl rfl rfl rfl rfl ?_
            obtain rfl := Option.some.inj hw20
            refine r_sub (lv' := [(0, .ref (a0 o0))]) [1] rfl ?_
            exact J21 
          · rw [if_neg c22] at hw20
            refine r_iload_n C eX11_takeAt_160 0 rfl rfl ?_
            refine r_goto C eX11_takeAt_161 ?_
            obtain rfl := Option.some.inj hw20
            refine r_sub (lv' := [(0, .ref (a0 o0))]) [1] rfl ?_
            exact J21 
        refine r_if_le C eX11_takeAt_122 (fun c16 => ?_) (fun c16 => ?_)
        · rw [if_pos c16] at hw14
          refine r_aload_n C eX11_takeAt_129 1 rfl rfl ?_
          refine r_iconst C (v := 0) eX11_takeAt_130 (by decide) ?_
          refine r_bipush C (v := 6) eX11_takeAt_131 (by decide) ?_
          obtain ⟨r17, hr17, hw14⟩ := zbind hw14
          refine r_V_i (ws' := W_Mo (z_g x) a0 o0 (r17.2) (gMo_told v0) (gMo_postX v0) (gMo_postStrong v0) (gMo_atRow v0) (gMo_heights v0) (gMo_ship v0) (gMo_lines v0) (gMo_text v0) (r1.2) (gMo_readTold v0) (gMo_readX v0) (gMo_readStrong v0) (upd (gMo_readRow v0) (ix (3 * ((w6.2) 24))) ((w6.2) 16)) (gMo_parting v0) (gMo_wasShip v0) (gMo_wasLines v0) (gMo_worst v0) (gMo_logRow v0) (gMo_images v0) (gMo_isKept v0)) C (c_Mo_takeNumber (z_l x) (z_g x) a0 o0 ((w6.2), (gMo_told v0), (gMo_postX v0), (gMo_postStrong v0), (gMo_atRow v0), (gMo_heights v0), (gMo_ship v0), (gMo_lines v0), (gMo_text v0), (r1.2), (gMo_readTold v0), (gMo_readX v0), (gMo_readStrong v0), (upd (gMo_readRow v0) (ix (3 * ((w6.2) 24))) ((w6.2) 16)), (gMo_parting v0), (gMo_wasShip v0), (gMo_wasLines v0), (gMo_worst v0), (gMo_logRow v0), (gMo_images v0), (gMo_isKept v0)) 0 6 r17 hr17) eX11_takeAt_133 MX11_138 ⟨0, 11, _, _, rfl, rfl, rfl⟩ [0, 1, 2, 3, 4, 5, 6, 7, 8, 9, 10, 11, 12, 13, 14, 15, 16, 17, 18, 19] rfl rfl rfl rfl [] rfl trivial 20 rfl rfl rfl rfl rfl rfl ?_
          obtain rfl := Option.some.inj hw14
          refine r_sub (lv' := [(0, .ref (a0 o0))]) [1] rfl ?_
          exact J15 
        · rw [if_neg c16] at hw14
          refine r_iload_n C eX11_takeAt_125 0 rfl rfl ?_
          refine r_goto C eX11_takeAt_126 ?_
          obtain rfl := Option.some.inj hw14
          refine r_sub (lv' := [(0, .ref (a0 o0))]) [1] rfl ?_
          exact J15 
      refine r_if_ne C eX11_takeAt_62 (fun c8 => ?_) (fun c8 => ?_)
      · rw [if_neg c8] at hw6
        refine r_iload_n C eX11_takeAt_104 0 rfl rfl ?_
        obtain rfl := Option.some.inj hw6
        refine r_sub (lv' := [(0, .ref (a0 o0))]) [1] rfl ?_
        exact J7 
      · rw [if_pos c8] at hw6
        refine r_aload_n C eX11_takeAt_65 1 rfl rfl ?_
        refine r_get (v := .int ((r5.2) 24)) C eX11_takeAt_66 FX11_181 0 rfl rfl ?_
        refine r_if_le C eX11_takeAt_69 (fun c9 => ?_) (fun c9 => ?_)
        · rw [if_pos c9] at hw6
          refine r_iload_n C eX11_takeAt_104 0 rfl rfl ?_
          obtain rfl := Option.some.inj hw6
          refine r_sub (lv' := [(0, .ref (a0 o0))]) [1] rfl ?_
          exact J7 
        · rw [if_neg c9] at hw6
          refine r_aload_n C eX11_takeAt_72 1 rfl rfl ?_
          refine r_get (v := .int ((r5.2) 16)) C eX11_takeAt_73 FX11_134 0 rfl rfl ?_
          refine r_aload_n C eX11_takeAt_76 1 rfl rfl ?_
          refine r_get (v := .ref (a0 (o0 + 12))) C eX11_takeAt_77 FX11_48 0 rfl rfl ?_
          refine r_iconst C (v := 3) eX11_takeAt_80 (by decide) ?_
          refine r_aload_n C eX11_takeAt_81 1 rfl rfl ?_
          refine r_get (v := .int ((r5.2) 24)) C eX11_takeAt_82 FX11_181 0 rfl rfl ?_
          refine r_imul C eX11_takeAt_85 ?_
          refine r_iconst C (v := 3) eX11_takeAt_86 (by decide) ?_
          refine r_isub C eX11_takeAt_87 ?_
          obtain ⟨hb10, hw6⟩ := zchk hw6
          refine r_iald C eX11_takeAt_88 12 rfl (inb_in hb10) ((gMo_readRow v0) (ix ((3 * ((r5.2) 24)) - 3))) rfl ?_
          refine r_icmp_gt C eX11_takeAt_89 (fun c11 => ?_) (fun c11 => ?_)
          · rw [if_pos c11] at hw6
            refine r_iload_n C eX11_takeAt_104 0 rfl rfl ?_
            obtain rfl := Option.some.inj hw6
            refine r_sub (lv' := [(0, .ref (a0 o0))]) [1] rfl ?_
            exact J7 
          · rw [if_neg c11] at hw6
            refine r_aload_n C eX11_takeAt_92 1 rfl rfl ?_
            refine r_iconst C (v := 4) eX11_takeAt_93 (by decide) ?_
            refine r_aload_n C eX11_takeAt_94 1 rfl rfl ?_
            refine r_get (v := .int ((r5.2) 17)) C eX11_takeAt_95 FX11_131 0 rfl rfl ?_
            obtain ⟨r12, hr12, hw6⟩ := zlet_of hw6
            refine r_V_i (ws' := W_Mo (z_g x) a0 o0 (r12.2) (gMo_told v0) (gMo_postX v0) (gMo_postStrong v0) (gMo_atRow v0) (gMo_heights v0) (gMo_ship v0) (gMo_lines v0) (gMo_text v0) (r1.2) (gMo_readTold v0) (gMo_readX v0) (gMo_readStrong v0) (gMo_readRow v0) (gMo_parting v0) (gMo_wasShip v0) (gMo_wasLines v0) (gMo_worst v0) (gMo_logRow v0) (gMo_images v0) (gMo_isKept v0)) C (c_Mo_fails (z_l x) (z_g x) a0 o0 ((r5.2), (gMo_told v0), (gMo_postX v0), (gMo_postStrong v0), (gMo_atRow v0), (gMo_heights v0), (gMo_ship v0), (gMo_lines v0), (gMo_text v0), (r1.2), (gMo_readTold v0), (gMo_readX v0), (gMo_readStrong v0), (gMo_readRow v0), (gMo_parting v0), (gMo_wasShip v0), (gMo_wasLines v0), (gMo_worst v0), (gMo_logRow v0), (gMo_images v0), (gMo_isKept v0)) 4 ((r5.2) 17) r12 hr12) eX11_takeAt_98 MX11_127 ⟨0, 11, _, _, rfl, rfl, rfl⟩ [0, 1, 2, 3, 4, 5, 6, 7, 8, 9, 10, 11, 12, 13, 14, 15, 16, 17, 18, 19] rfl rfl rfl rfl [] rfl trivial 20 rfl rfl rfl rfl rfl rfl ?_
            refine r_goto C eX11_takeAt_101 ?_
            obtain rfl := Option.some.inj hw6
            refine r_sub (lv' := [(0, .ref (a0 o0))]) [1] rfl ?_
            exact J7 
    · rw [if_pos c3] at hf
      refine r_aload_n C eX11_takeAt_34 0 rfl rfl ?_
      refine r_iconst C (v := 3) eX11_takeAt_35 (by decide) ?_
      refine r_aload_n C eX11_takeAt_36 0 rfl rfl ?_
      refine r_get (v := .int ((r1.1) 13)) C eX11_takeAt_37 FX11_97 0 rfl rfl ?_
      obtain ⟨r4, hr4, hf⟩ := zlet_of hf
      refine r_V_i (ws' := W_Mo (z_g x) a0 o0 (r4.2) (gMo_told v0) (gMo_postX v0) (gMo_postStrong v0) (gMo_atRow v0) (gMo_heights v0) (gMo_ship v0) (gMo_lines v0) (gMo_text v0) (r1.2) (gMo_readTold v0) (gMo_readX v0) (gMo_readStrong v0) (gMo_readRow v0) (gMo_parting v0) (gMo_wasShip v0) (gMo_wasLines v0) (gMo_worst v0) (gMo_logRow v0) (gMo_images v0) (gMo_isKept v0)) C (c_Mo_fails (z_l x) (z_g x) a0 o0 ((r1.1), (gMo_told v0), (gMo_postX v0), (gMo_postStrong v0), (gMo_atRow v0), (gMo_heights v0), (gMo_ship v0), (gMo_lines v0), (gMo_text v0), (r1.2), (gMo_readTold v0), (gMo_readX v0), (gMo_readStrong v0), (gMo_readRow v0), (gMo_parting v0), (gMo_wasShip v0), (gMo_wasLines v0), (gMo_worst v0), (gMo_logRow v0), (gMo_images v0), (gMo_isKept v0)) 3 ((r1.1) 13) r4 hr4) eX11_takeAt_40 MX11_127 ⟨0, 11, _, _, rfl, rfl, rfl⟩ [0, 1, 2, 3, 4, 5, 6, 7, 8, 9, 10, 11, 12, 13, 14, 15, 16, 17, 18, 19] rfl rfl rfl rfl [] rfl trivial 20 rfl rfl rfl rfl rfl rfl ?_
      obtain rfl := Option.some.inj (show some (((r4.1), (r4.2), (r1.2), (gMo_readRow v0)) : Int32 × (Nat → Int32) × Int64 × (Nat → Int32)) = some _ from hf)
      exact hret _ _ _ eX11_takeAt_43
  · rw [if_neg c2] at hf
    refine r_aload_n C eX11_takeAt_15 0 rfl rfl ?_
    refine r_iconst C (v := 1) eX11_takeAt_16 (by decide) ?_
    refine r_aload_n C eX11_takeAt_17 0 rfl rfl ?_
    refine r_get (v := .int ((r1.1) 13)) C eX11_takeAt_18 FX11_97 0 rfl rfl ?_
    obtain ⟨r29, hr29, hf⟩ := zlet_of hf
    refine r_V_i (ws' := W_Mo (z_g x) a0 o0 (r29.2) (gMo_told v0) (gMo_postX v0) (gMo_postStrong v0) (gMo_atRow v0) (gMo_heights v0) (gMo_ship v0) (gMo_lines v0) (gMo_text v0) (r1.2) (gMo_readTold v0) (gMo_readX v0) (gMo_readStrong v0) (gMo_readRow v0) (gMo_parting v0) (gMo_wasShip v0) (gMo_wasLines v0) (gMo_worst v0) (gMo_logRow v0) (gMo_images v0) (gMo_isKept v0)) C (c_Mo_fails (z_l x) (z_g x) a0 o0 ((r1.1), (gMo_told v0), (gMo_postX v0), (gMo_postStrong v0), (gMo_atRow v0), (gMo_heights v0), (gMo_ship v0), (gMo_lines v0), (gMo_text v0), (r1.2), (gMo_readTold v0), (gMo_readX v0), (gMo_readStrong v0), (gMo_readRow v0), (gMo_parting v0), (gMo_wasShip v0), (gMo_wasLines v0), (gMo_worst v0), (gMo_logRow v0), (gMo_images v0), (gMo_isKept v0)) 1 ((r1.1) 13) r29 hr29) eX11_takeAt_21 MX11_127 ⟨0, 11, _, _, rfl, rfl, rfl⟩ [0, 1, 2, 3, 4, 5, 6, 7, 8, 9, 10, 11, 12, 13, 14, 15, 16, 17, 18, 19] rfl rfl rfl rfl [] rfl trivial 20 rfl rfl rfl rfl rfl rfl ?_
    obtain rfl := Option.some.inj (show some (((r29.1), (r29.2), (r1.2), (gMo_readRow v0)) : Int32 × (Nat → Int32) × Int64 × (Nat → Int32)) = some _ from hf)
    exact hret _ _ _ eX11_takeAt_24
