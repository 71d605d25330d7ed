theorem dL_cell_0 : decode cL_cell 0 = .ok (.iload_n 1, 1) := by decide +kernel
theorem dL_cell_1 : decode cL_cell 1 = .ok (.aload_n 0, 1) := by decide +kernel
theorem dL_cell_2 : decode cL_cell 2 = .ok (.arraylength, 1) := by decide +kernel
theorem dL_cell_3 : decode cL_cell 3 = .ok (.if_icmp .ge 9, 3) := by decide +kernel
theorem dL_cell_6 : decode cL_cell 6 = .ok (.aload_n 0, 1) := by decide +kernel
theorem dL_cell_7 : decode cL_cell 7 = .ok (.iload_n 1, 1) := by decide +kernel
theorem dL_cell_8 : decode cL_cell 8 = .ok (.iaload, 1) := by decide +kernel
theorem dL_cell_9 : decode cL_cell 9 = .ok (.goto 4, 3) := by decide +kernel
theorem dL_cell_12 : decode cL_cell 12 = .ok (.iconst 0, 1) := by decide +kernel
theorem dL_cell_13 : decode cL_cell 13 = .ok (.ireturn, 1) := by decide +kernel
theorem dL_write_0 : decode cL_write 0 = .ok (.aload 4, 2) := by decide +kernel
theorem dL_write_2 : decode cL_write 2 = .ok (.iconst 0, 1) := by decide +kernel
theorem dL_write_3 : decode cL_write 3 = .ok (.aload_n 0, 1) := by decide +kernel
theorem dL_write_4 : decode cL_write 4 = .ok (.iload_n 1, 1) := by decide +kernel
theorem dL_write_5 : decode cL_write 5 = .ok (.lload_n 2, 1) := by decide +kernel
theorem dL_write_6 : decode cL_write 6 = .ok (.invokevirtual 7, 3) := by decide +kernel
theorem dL_write_9 : decode cL_write 9 = .ok (.ifCond .eq 7, 3) := by decide +kernel
theorem dL_write_12 : decode cL_write 12 = .ok (.lconst 1, 1) := by decide +kernel
theorem dL_write_13 : decode cL_write 13 = .ok (.goto 4, 3) := by decide +kernel
theorem dL_write_16 : decode cL_write 16 = .ok (.lconst 0, 1) := by decide +kernel
theorem dL_write_17 : decode cL_write 17 = .ok (.lastore, 1) := by decide +kernel
theorem dL_write_18 : decode cL_write 18 = .ok (.goto 11, 3) := by decide +kernel
theorem dL_write_21 : decode cL_write 21 = .ok (.astore 5, 2) := by decide +kernel
theorem dL_write_23 : decode cL_write 23 = .ok (.iconst 1, 1) := by decide +kernel
theorem dL_write_24 : decode cL_write 24 = .ok (.ireturn, 1) := by decide +kernel
theorem dL_write_25 : decode cL_write 25 = .ok (.astore 5, 2) := by decide +kernel
theorem dL_write_27 : decode cL_write 27 = .ok (.iconst 2, 1) := by decide +kernel
theorem dL_write_28 : decode cL_write 28 = .ok (.ireturn, 1) := by decide +kernel
theorem dL_write_29 : decode cL_write 29 = .ok (.iconst 0, 1) := by decide +kernel
theorem dL_write_30 : decode cL_write 30 = .ok (.ireturn, 1) := by decide +kernel
theorem dL_read_0 : decode cL_read 0 = .ok (.aload_n 2, 1) := by decide +kernel
theorem dL_read_1 : decode cL_read 1 = .ok (.iconst 0, 1) := by decide +kernel
theorem dL_read_2 : decode cL_read 2 = .ok (.aload_n 0, 1) := by decide +kernel
theorem dL_read_3 : decode cL_read 3 = .ok (.iload_n 1, 1) := by decide +kernel
theorem dL_read_4 : decode cL_read 4 = .ok (.invokevirtual 17, 3) := by decide +kernel
theorem dL_read_7 : decode cL_read 7 = .ok (.lastore, 1) := by decide +kernel
theorem dL_read_8 : decode cL_read 8 = .ok (.goto 9, 3) := by decide +kernel
theorem dL_read_11 : decode cL_read 11 = .ok (.astore_n 3, 1) := by decide +kernel
theorem dL_read_12 : decode cL_read 12 = .ok (.iconst 1, 1) := by decide +kernel
theorem dL_read_13 : decode cL_read 13 = .ok (.ireturn, 1) := by decide +kernel
theorem dL_read_14 : decode cL_read 14 = .ok (.astore_n 3, 1) := by decide +kernel
theorem dL_read_15 : decode cL_read 15 = .ok (.iconst 2, 1) := by decide +kernel
theorem dL_read_16 : decode cL_read 16 = .ok (.ireturn, 1) := by decide +kernel
theorem dL_read_17 : decode cL_read 17 = .ok (.iconst 0, 1) := by decide +kernel
theorem dL_read_18 : decode cL_read 18 = .ok (.ireturn, 1) := by decide +kernel
theorem dL_add_0 : decode cL_add 0 = .ok (.aload_n 1, 1) := by decide +kernel
theorem dL_add_1 : decode cL_add 1 = .ok (.iconst 0, 1) := by decide +kernel
theorem dL_add_2 : decode cL_add 2 = .ok (.aload_n 0, 1) := by decide +kernel
theorem dL_add_3 : decode cL_add 3 = .ok (.invokevirtual 21, 3) := by decide +kernel
theorem dL_add_6 : decode cL_add 6 = .ok (.i2l, 1) := by decide +kernel
theorem dL_add_7 : decode cL_add 7 = .ok (.lastore, 1) := by decide +kernel
theorem dL_add_8 : decode cL_add 8 = .ok (.goto 6, 3) := by decide +kernel
theorem dL_add_11 : decode cL_add 11 = .ok (.astore_n 2, 1) := by decide +kernel
theorem dL_add_12 : decode cL_add 12 = .ok (.iconst 1, 1) := by decide +kernel
theorem dL_add_13 : decode cL_add 13 = .ok (.ireturn, 1) := by decide +kernel
theorem dL_add_14 : decode cL_add 14 = .ok (.iconst 0, 1) := by decide +kernel
theorem dL_add_15 : decode cL_add 15 = .ok (.ireturn, 1) := by decide +kernel
theorem dL_grow_0 : decode cL_grow 0 = .ok (.aload_n 1, 1) := by decide +kernel
theorem dL_grow_1 : decode cL_grow 1 = .ok (.iconst 0, 1) := by decide +kernel
theorem dL_grow_2 : decode cL_grow 2 = .ok (.aload_n 0, 1) := by decide +kernel
theorem dL_grow_3 : decode cL_grow 3 = .ok (.invokevirtual 25, 3) := by decide +kernel
theorem dL_grow_6 : decode cL_grow 6 = .ok (.i2l, 1) := by decide +kernel
theorem dL_grow_7 : decode cL_grow 7 = .ok (.lastore, 1) := by decide +kernel
theorem dL_grow_8 : decode cL_grow 8 = .ok (.goto 6, 3) := by decide +kernel
theorem dL_grow_11 : decode cL_grow 11 = .ok (.astore_n 2, 1) := by decide +kernel
theorem dL_grow_12 : decode cL_grow 12 = .ok (.iconst 1, 1) := by decide +kernel
theorem dL_grow_13 : decode cL_grow 13 = .ok (.ireturn, 1) := by decide +kernel
theorem dL_grow_14 : decode cL_grow 14 = .ok (.iconst 0, 1) := by decide +kernel
theorem dL_grow_15 : decode cL_grow 15 = .ok (.ireturn, 1) := by decide +kernel
theorem dL_step_0 : decode cL_step 0 = .ok (.aload_n 1, 1) := by decide +kernel
theorem dL_step_1 : decode cL_step 1 = .ok (.iconst 0, 1) := by decide +kernel
theorem dL_step_2 : decode cL_step 2 = .ok (.aload_n 0, 1) := by decide +kernel
theorem dL_step_3 : decode cL_step 3 = .ok (.invokevirtual 28, 3) := by decide +kernel
theorem dL_step_6 : decode cL_step 6 = .ok (.i2l, 1) := by decide +kernel
theorem dL_step_7 : decode cL_step 7 = .ok (.lastore, 1) := by decide +kernel
theorem dL_step_8 : decode cL_step 8 = .ok (.goto 6, 3) := by decide +kernel
theorem dL_step_11 : decode cL_step 11 = .ok (.astore_n 2, 1) := by decide +kernel
theorem dL_step_12 : decode cL_step 12 = .ok (.iconst 1, 1) := by decide +kernel
theorem dL_step_13 : decode cL_step 13 = .ok (.ireturn, 1) := by decide +kernel
theorem dL_step_14 : decode cL_step 14 = .ok (.iconst 0, 1) := by decide +kernel
theorem dL_step_15 : decode cL_step 15 = .ok (.ireturn, 1) := by decide +kernel
theorem dL_rebuild_0 : decode cL_rebuild 0 = .ok (.aload_n 1, 1) := by decide +kernel
theorem dL_rebuild_1 : decode cL_rebuild 1 = .ok (.iconst 0, 1) := by decide +kernel
theorem dL_rebuild_2 : decode cL_rebuild 2 = .ok (.aload_n 0, 1) := by decide +kernel
theorem dL_rebuild_3 : decode cL_rebuild 3 = .ok (.invokevirtual 31, 3) := by decide +kernel
theorem dL_rebuild_6 : decode cL_rebuild 6 = .ok (.i2l, 1) := by decide +kernel
theorem dL_rebuild_7 : decode cL_rebuild 7 = .ok (.lastore, 1) := by decide +kernel
theorem dL_rebuild_8 : decode cL_rebuild 8 = .ok (.goto 6, 3) := by decide +kernel
theorem dL_rebuild_11 : decode cL_rebuild 11 = .ok (.astore_n 2, 1) := by decide +kernel
theorem dL_rebuild_12 : decode cL_rebuild 12 = .ok (.iconst 1, 1) := by decide +kernel
theorem dL_rebuild_13 : decode cL_rebuild 13 = .ok (.ireturn, 1) := by decide +kernel
theorem dL_rebuild_14 : decode cL_rebuild 14 = .ok (.iconst 0, 1) := by decide +kernel
theorem dL_rebuild_15 : decode cL_rebuild 15 = .ok (.ireturn, 1) := by decide +kernel
theorem dL_sum_0 : decode cL_sum 0 = .ok (.aload_n 1, 1) := by decide +kernel
theorem dL_sum_1 : decode cL_sum 1 = .ok (.iconst 0, 1) := by decide +kernel
theorem dL_sum_2 : decode cL_sum 2 = .ok (.aload_n 0, 1) := by decide +kernel
theorem dL_sum_3 : decode cL_sum 3 = .ok (.invokevirtual 34, 3) := by decide +kernel
theorem dL_sum_6 : decode cL_sum 6 = .ok (.lastore, 1) := by decide +kernel
theorem dL_sum_7 : decode cL_sum 7 = .ok (.goto 6, 3) := by decide +kernel
theorem dL_sum_10 : decode cL_sum 10 = .ok (.astore_n 2, 1) := by decide +kernel
theorem dL_sum_11 : decode cL_sum 11 = .ok (.iconst 1, 1) := by decide +kernel
theorem dL_sum_12 : decode cL_sum 12 = .ok (.ireturn, 1) := by decide +kernel
theorem dL_sum_13 : decode cL_sum 13 = .ok (.iconst 0, 1) := by decide +kernel
theorem dL_sum_14 : decode cL_sum 14 = .ok (.ireturn, 1) := by decide +kernel
theorem dL_law_0 : decode cL_law 0 = .ok (.new 8, 3) := by decide +kernel
theorem dL_law_3 : decode cL_law 3 = .ok (.dup, 1) := by decide +kernel
theorem dL_law_4 : decode cL_law 4 = .ok (.aload_n 0, 1) := by decide +kernel
theorem dL_law_5 : decode cL_law 5 = .ok (.iconst 0, 1) := by decide +kernel
theorem dL_law_6 : decode cL_law 6 = .ok (.invokestatic 38, 3) := by decide +kernel
theorem dL_law_9 : decode cL_law 9 = .ok (.aload_n 0, 1) := by decide +kernel
theorem dL_law_10 : decode cL_law 10 = .ok (.iconst 1, 1) := by decide +kernel
theorem dL_law_11 : decode cL_law 11 = .ok (.invokestatic 38, 3) := by decide +kernel
theorem dL_law_14 : decode cL_law 14 = .ok (.invokespecial 44, 3) := by decide +kernel
theorem dL_law_17 : decode cL_law 17 = .ok (.astore_n 1, 1) := by decide +kernel
theorem dL_law_18 : decode cL_law 18 = .ok (.new 47, 3) := by decide +kernel
theorem dL_law_21 : decode cL_law 21 = .ok (.dup, 1) := by decide +kernel
theorem dL_law_22 : decode cL_law 22 = .ok (.aload_n 0, 1) := by decide +kernel
theorem dL_law_23 : decode cL_law 23 = .ok (.iconst 0, 1) := by decide +kernel
theorem dL_law_24 : decode cL_law 24 = .ok (.invokestatic 38, 3) := by decide +kernel
theorem dL_law_27 : decode cL_law 27 = .ok (.aload_n 0, 1) := by decide +kernel
theorem dL_law_28 : decode cL_law 28 = .ok (.iconst 1, 1) := by decide +kernel
theorem dL_law_29 : decode cL_law 29 = .ok (.invokestatic 38, 3) := by decide +kernel
theorem dL_law_32 : decode cL_law 32 = .ok (.invokespecial 49, 3) := by decide +kernel
theorem dL_law_35 : decode cL_law 35 = .ok (.astore_n 2, 1) := by decide +kernel
theorem dL_law_36 : decode cL_law 36 = .ok (.iconst 1, 1) := by decide +kernel
theorem dL_law_37 : decode cL_law 37 = .ok (.newarray .long, 2) := by decide +kernel
theorem dL_law_39 : decode cL_law 39 = .ok (.astore_n 3, 1) := by decide +kernel
theorem dL_law_40 : decode cL_law 40 = .ok (.iconst 2, 1) := by decide +kernel
theorem dL_law_41 : decode cL_law 41 = .ok (.istore 4, 2) := by decide +kernel
theorem dL_law_43 : decode cL_law 43 = .ok (.iload 4, 2) := by decide +kernel
theorem dL_law_45 : decode cL_law 45 = .ok (.aload_n 0, 1) := by decide +kernel
theorem dL_law_46 : decode cL_law 46 = .ok (.arraylength, 1) := by decide +kernel
theorem dL_law_47 : decode cL_law 47 = .ok (.iconst 4, 1) := by decide +kernel
theorem dL_law_48 : decode cL_law 48 = .ok (.isub, 1) := by decide +kernel
theorem dL_law_49 : decode cL_law 49 = .ok (.if_icmp .gt 455, 3) := by decide +kernel
theorem dL_law_52 : decode cL_law 52 = .ok (.aload_n 0, 1) := by decide +kernel
theorem dL_law_53 : decode cL_law 53 = .ok (.iload 4, 2) := by decide +kernel
theorem dL_law_55 : decode cL_law 55 = .ok (.iaload, 1) := by decide +kernel
theorem dL_law_56 : decode cL_law 56 = .ok (.bipush 15, 2) := by decide +kernel
theorem dL_law_58 : decode cL_law 58 = .ok (.iand, 1) := by decide +kernel
theorem dL_law_59 : decode cL_law 59 = .ok (.tableswitch 439 0 14 #[73, 145, 173, 189, 205, 221, 246, 259, 275, 298, 311, 348, 385, 410, 423], 73) := by decide +kernel
theorem dL_law_132 : decode cL_law 132 = .ok (.aload_n 1, 1) := by decide +kernel
theorem dL_law_133 : decode cL_law 133 = .ok (.aload_n 0, 1) := by decide +kernel
theorem dL_law_134 : decode cL_law 134 = .ok (.iload 4, 2) := by decide +kernel
theorem dL_law_136 : decode cL_law 136 = .ok (.iconst 1, 1) := by decide +kernel
theorem dL_law_137 : decode cL_law 137 = .ok (.iadd, 1) := by decide +kernel
theorem dL_law_138 : decode cL_law 138 = .ok (.iaload, 1) := by decide +kernel
theorem dL_law_139 : decode cL_law 139 = .ok (.aload_n 0, 1) := by decide +kernel
theorem dL_law_140 : decode cL_law 140 = .ok (.iload 4, 2) := by decide +kernel
theorem dL_law_142 : decode cL_law 142 = .ok (.iconst 2, 1) := by decide +kernel
theorem dL_law_143 : decode cL_law 143 = .ok (.iadd, 1) := by decide +kernel
theorem dL_law_144 : decode cL_law 144 = .ok (.iaload, 1) := by decide +kernel
theorem dL_law_145 : decode cL_law 145 = .ok (.i2l, 1) := by decide +kernel
theorem dL_law_146 : decode cL_law 146 = .ok (.bipush 32, 2) := by decide +kernel
theorem dL_law_148 : decode cL_law 148 = .ok (.lshl, 1) := by decide +kernel
theorem dL_law_149 : decode cL_law 149 = .ok (.aload_n 0, 1) := by decide +kernel
theorem dL_law_150 : decode cL_law 150 = .ok (.iload 4, 2) := by decide +kernel
theorem dL_law_152 : decode cL_law 152 = .ok (.iconst 3, 1) := by decide +kernel
theorem dL_law_153 : decode cL_law 153 = .ok (.iadd, 1) := by decide +kernel
theorem dL_law_154 : decode cL_law 154 = .ok (.iaload, 1) := by decide +kernel
theorem dL_law_155 : decode cL_law 155 = .ok (.i2l, 1) := by decide +kernel
theorem dL_law_156 : decode cL_law 156 = .ok (.ldc2_w 50, 3) := by decide +kernel
theorem dL_law_159 : decode cL_law 159 = .ok (.land, 1) := by decide +kernel
theorem dL_law_160 : decode cL_law 160 = .ok (.lor, 1) := by decide +kernel
theorem dL_law_161 : decode cL_law 161 = .ok (.aload_n 3, 1) := by decide +kernel
theorem dL_law_162 : decode cL_law 162 = .ok (.invokestatic 52, 3) := by decide +kernel
theorem dL_law_165 : decode cL_law 165 = .ok (.istore 5, 2) := by decide +kernel
theorem dL_law_167 : decode cL_law 167 = .ok (.aload_n 2, 1) := by decide +kernel
theorem dL_law_168 : decode cL_law 168 = .ok (.aload_n 0, 1) := by decide +kernel
theorem dL_law_169 : decode cL_law 169 = .ok (.iload 4, 2) := by decide +kernel
theorem dL_law_171 : decode cL_law 171 = .ok (.iconst 1, 1) := by decide +kernel
theorem dL_law_172 : decode cL_law 172 = .ok (.iadd, 1) := by decide +kernel
theorem dL_law_173 : decode cL_law 173 = .ok (.iaload, 1) := by decide +kernel
theorem dL_law_174 : decode cL_law 174 = .ok (.aload_n 0, 1) := by decide +kernel
theorem dL_law_175 : decode cL_law 175 = .ok (.iload 4, 2) := by decide +kernel
theorem dL_law_177 : decode cL_law 177 = .ok (.iconst 2, 1) := by decide +kernel
theorem dL_law_178 : decode cL_law 178 = .ok (.iadd, 1) := by decide +kernel
theorem dL_law_179 : decode cL_law 179 = .ok (.iaload, 1) := by decide +kernel
theorem dL_law_180 : decode cL_law 180 = .ok (.i2l, 1) := by decide +kernel
theorem dL_law_181 : decode cL_law 181 = .ok (.bipush 32, 2) := by decide +kernel
theorem dL_law_183 : decode cL_law 183 = .ok (.lshl, 1) := by decide +kernel
theorem dL_law_184 : decode cL_law 184 = .ok (.aload_n 0, 1) := by decide +kernel
theorem dL_law_185 : decode cL_law 185 = .ok (.iload 4, 2) := by decide +kernel
theorem dL_law_187 : decode cL_law 187 = .ok (.iconst 3, 1) := by decide +kernel
theorem dL_law_188 : decode cL_law 188 = .ok (.iadd, 1) := by decide +kernel
theorem dL_law_189 : decode cL_law 189 = .ok (.iaload, 1) := by decide +kernel
theorem dL_law_190 : decode cL_law 190 = .ok (.i2l, 1) := by decide +kernel
theorem dL_law_191 : decode cL_law 191 = .ok (.ldc2_w 50, 3) := by decide +kernel
theorem dL_law_194 : decode cL_law 194 = .ok (.land, 1) := by decide +kernel
theorem dL_law_195 : decode cL_law 195 = .ok (.lor, 1) := by decide +kernel
theorem dL_law_196 : decode cL_law 196 = .ok (.invokevirtual 55, 3) := by decide +kernel
theorem dL_law_199 : decode cL_law 199 = .ok (.istore 6, 2) := by decide +kernel
theorem dL_law_201 : decode cL_law 201 = .ok (.goto 297, 3) := by decide +kernel
theorem dL_law_204 : decode cL_law 204 = .ok (.aload_n 1, 1) := by decide +kernel
theorem dL_law_205 : decode cL_law 205 = .ok (.aload_n 0, 1) := by decide +kernel
theorem dL_law_206 : decode cL_law 206 = .ok (.iload 4, 2) := by decide +kernel
theorem dL_law_208 : decode cL_law 208 = .ok (.iconst 1, 1) := by decide +kernel
theorem dL_law_209 : decode cL_law 209 = .ok (.iadd, 1) := by decide +kernel
theorem dL_law_210 : decode cL_law 210 = .ok (.iaload, 1) := by decide +kernel
theorem dL_law_211 : decode cL_law 211 = .ok (.aload_n 3, 1) := by decide +kernel
theorem dL_law_212 : decode cL_law 212 = .ok (.invokestatic 56, 3) := by decide +kernel
theorem dL_law_215 : decode cL_law 215 = .ok (.istore 5, 2) := by decide +kernel
theorem dL_law_217 : decode cL_law 217 = .ok (.aload_n 2, 1) := by decide +kernel
theorem dL_law_218 : decode cL_law 218 = .ok (.aload_n 0, 1) := by decide +kernel
theorem dL_law_219 : decode cL_law 219 = .ok (.iload 4, 2) := by decide +kernel
theorem dL_law_221 : decode cL_law 221 = .ok (.iconst 1, 1) := by decide +kernel
theorem dL_law_222 : decode cL_law 222 = .ok (.iadd, 1) := by decide +kernel
theorem dL_law_223 : decode cL_law 223 = .ok (.iaload, 1) := by decide +kernel
theorem dL_law_224 : decode cL_law 224 = .ok (.invokevirtual 59, 3) := by decide +kernel
theorem dL_law_227 : decode cL_law 227 = .ok (.lstore 6, 2) := by decide +kernel
theorem dL_law_229 : decode cL_law 229 = .ok (.goto 269, 3) := by decide +kernel
theorem dL_law_232 : decode cL_law 232 = .ok (.aload_n 1, 1) := by decide +kernel
theorem dL_law_233 : decode cL_law 233 = .ok (.aload_n 3, 1) := by decide +kernel
theorem dL_law_234 : decode cL_law 234 = .ok (.invokestatic 60, 3) := by decide +kernel
theorem dL_law_237 : decode cL_law 237 = .ok (.istore 5, 2) := by decide +kernel
theorem dL_law_239 : decode cL_law 239 = .ok (.aload_n 2, 1) := by decide +kernel
theorem dL_law_240 : decode cL_law 240 = .ok (.invokevirtual 63, 3) := by decide +kernel
theorem dL_law_243 : decode cL_law 243 = .ok (.istore 6, 2) := by decide +kernel
theorem dL_law_245 : decode cL_law 245 = .ok (.goto 253, 3) := by decide +kernel
theorem dL_law_248 : decode cL_law 248 = .ok (.aload_n 1, 1) := by decide +kernel
theorem dL_law_249 : decode cL_law 249 = .ok (.aload_n 3, 1) := by decide +kernel
theorem dL_law_250 : decode cL_law 250 = .ok (.invokestatic 64, 3) := by decide +kernel
theorem dL_law_253 : decode cL_law 253 = .ok (.istore 5, 2) := by decide +kernel
theorem dL_law_255 : decode cL_law 255 = .ok (.aload_n 2, 1) := by decide +kernel
theorem dL_law_256 : decode cL_law 256 = .ok (.invokevirtual 66, 3) := by decide +kernel
theorem dL_law_259 : decode cL_law 259 = .ok (.istore 6, 2) := by decide +kernel
theorem dL_law_261 : decode cL_law 261 = .ok (.goto 237, 3) := by decide +kernel
theorem dL_law_264 : decode cL_law 264 = .ok (.aload_n 1, 1) := by decide +kernel
theorem dL_law_265 : decode cL_law 265 = .ok (.aload_n 3, 1) := by decide +kernel
theorem dL_law_266 : decode cL_law 266 = .ok (.invokestatic 67, 3) := by decide +kernel
theorem dL_law_269 : decode cL_law 269 = .ok (.istore 5, 2) := by decide +kernel
theorem dL_law_271 : decode cL_law 271 = .ok (.aload_n 2, 1) := by decide +kernel
theorem dL_law_272 : decode cL_law 272 = .ok (.invokevirtual 69, 3) := by decide +kernel
theorem dL_law_275 : decode cL_law 275 = .ok (.istore 6, 2) := by decide +kernel
theorem dL_law_277 : decode cL_law 277 = .ok (.goto 221, 3) := by decide +kernel
theorem dL_law_280 : decode cL_law 280 = .ok (.aload_n 1, 1) := by decide +kernel
theorem dL_law_281 : decode cL_law 281 = .ok (.aload_n 0, 1) := by decide +kernel
theorem dL_law_282 : decode cL_law 282 = .ok (.iload 4, 2) := by decide +kernel
theorem dL_law_284 : decode cL_law 284 = .ok (.iconst 1, 1) := by decide +kernel
theorem dL_law_285 : decode cL_law 285 = .ok (.iadd, 1) := by decide +kernel
theorem dL_law_286 : decode cL_law 286 = .ok (.iaload, 1) := by decide +kernel
theorem dL_law_287 : decode cL_law 287 = .ok (.invokevirtual 70, 3) := by decide +kernel
theorem dL_law_290 : decode cL_law 290 = .ok (.pop, 1) := by decide +kernel
theorem dL_law_291 : decode cL_law 291 = .ok (.aload_n 2, 1) := by decide +kernel
theorem dL_law_292 : decode cL_law 292 = .ok (.aload_n 0, 1) := by decide +kernel
theorem dL_law_293 : decode cL_law 293 = .ok (.iload 4, 2) := by decide +kernel
theorem dL_law_295 : decode cL_law 295 = .ok (.iconst 1, 1) := by decide +kernel
theorem dL_law_296 : decode cL_law 296 = .ok (.iadd, 1) := by decide +kernel
theorem dL_law_297 : decode cL_law 297 = .ok (.iaload, 1) := by decide +kernel
theorem dL_law_298 : decode cL_law 298 = .ok (.invokevirtual 74, 3) := by decide +kernel
theorem dL_law_301 : decode cL_law 301 = .ok (.pop, 1) := by decide +kernel
theorem dL_law_302 : decode cL_law 302 = .ok (.goto 196, 3) := by decide +kernel
theorem dL_law_305 : decode cL_law 305 = .ok (.aload_n 1, 1) := by decide +kernel
theorem dL_law_306 : decode cL_law 306 = .ok (.invokevirtual 75, 3) := by decide +kernel
theorem dL_law_309 : decode cL_law 309 = .ok (.pop, 1) := by decide +kernel
theorem dL_law_310 : decode cL_law 310 = .ok (.aload_n 2, 1) := by decide +kernel
theorem dL_law_311 : decode cL_law 311 = .ok (.invokevirtual 79, 3) := by decide +kernel
theorem dL_law_314 : decode cL_law 314 = .ok (.pop, 1) := by decide +kernel
theorem dL_law_315 : decode cL_law 315 = .ok (.goto 183, 3) := by decide +kernel
theorem dL_law_318 : decode cL_law 318 = .ok (.aload_n 1, 1) := by decide +kernel
theorem dL_law_319 : decode cL_law 319 = .ok (.aload_n 3, 1) := by decide +kernel
theorem dL_law_320 : decode cL_law 320 = .ok (.invokestatic 80, 3) := by decide +kernel
theorem dL_law_323 : decode cL_law 323 = .ok (.istore 5, 2) := by decide +kernel
theorem dL_law_325 : decode cL_law 325 = .ok (.aload_n 2, 1) := by decide +kernel
theorem dL_law_326 : decode cL_law 326 = .ok (.invokevirtual 82, 3) := by decide +kernel
theorem dL_law_329 : decode cL_law 329 = .ok (.istore 6, 2) := by decide +kernel
theorem dL_law_331 : decode cL_law 331 = .ok (.goto 167, 3) := by decide +kernel
theorem dL_law_334 : decode cL_law 334 = .ok (.aload_n 1, 1) := by decide +kernel
theorem dL_law_335 : decode cL_law 335 = .ok (.aload_n 0, 1) := by decide +kernel
theorem dL_law_336 : decode cL_law 336 = .ok (.iload 4, 2) := by decide +kernel
theorem dL_law_338 : decode cL_law 338 = .ok (.iconst 1, 1) := by decide +kernel
theorem dL_law_339 : decode cL_law 339 = .ok (.iadd, 1) := by decide +kernel
theorem dL_law_340 : decode cL_law 340 = .ok (.iaload, 1) := by decide +kernel
theorem dL_law_341 : decode cL_law 341 = .ok (.invokevirtual 83, 3) := by decide +kernel
theorem dL_law_344 : decode cL_law 344 = .ok (.aload_n 2, 1) := by decide +kernel
theorem dL_law_345 : decode cL_law 345 = .ok (.aload_n 0, 1) := by decide +kernel
theorem dL_law_346 : decode cL_law 346 = .ok (.iload 4, 2) := by decide +kernel
theorem dL_law_348 : decode cL_law 348 = .ok (.iconst 1, 1) := by decide +kernel
theorem dL_law_349 : decode cL_law 349 = .ok (.iadd, 1) := by decide +kernel
theorem dL_law_350 : decode cL_law 350 = .ok (.iaload, 1) := by decide +kernel
theorem dL_law_351 : decode cL_law 351 = .ok (.invokevirtual 87, 3) := by decide +kernel
theorem dL_law_354 : decode cL_law 354 = .ok (.goto 144, 3) := by decide +kernel
theorem dL_law_357 : decode cL_law 357 = .ok (.aload_n 1, 1) := by decide +kernel
theorem dL_law_358 : decode cL_law 358 = .ok (.invokevirtual 88, 3) := by decide +kernel
theorem dL_law_361 : decode cL_law 361 = .ok (.pop, 1) := by decide +kernel
theorem dL_law_362 : decode cL_law 362 = .ok (.aload_n 2, 1) := by decide +kernel
theorem dL_law_363 : decode cL_law 363 = .ok (.invokevirtual 91, 3) := by decide +kernel
theorem dL_law_366 : decode cL_law 366 = .ok (.pop, 1) := by decide +kernel
theorem dL_law_367 : decode cL_law 367 = .ok (.goto 131, 3) := by decide +kernel
theorem dL_law_370 : decode cL_law 370 = .ok (.aload_n 1, 1) := by decide +kernel
theorem dL_law_371 : decode cL_law 371 = .ok (.aload_n 0, 1) := by decide +kernel
theorem dL_law_372 : decode cL_law 372 = .ok (.iload 4, 2) := by decide +kernel
theorem dL_law_374 : decode cL_law 374 = .ok (.iconst 1, 1) := by decide +kernel
theorem dL_law_375 : decode cL_law 375 = .ok (.iadd, 1) := by decide +kernel
theorem dL_law_376 : decode cL_law 376 = .ok (.iaload, 1) := by decide +kernel
theorem dL_law_377 : decode cL_law 377 = .ok (.aload_n 0, 1) := by decide +kernel
theorem dL_law_378 : decode cL_law 378 = .ok (.iload 4, 2) := by decide +kernel
theorem dL_law_380 : decode cL_law 380 = .ok (.iconst 2, 1) := by decide +kernel
theorem dL_law_381 : decode cL_law 381 = .ok (.iadd, 1) := by decide +kernel
theorem dL_law_382 : decode cL_law 382 = .ok (.iaload, 1) := by decide +kernel
theorem dL_law_383 : decode cL_law 383 = .ok (.invokevirtual 92, 3) := by decide +kernel
theorem dL_law_386 : decode cL_law 386 = .ok (.aload_n 2, 1) := by decide +kernel
theorem dL_law_387 : decode cL_law 387 = .ok (.aload_n 0, 1) := by decide +kernel
theorem dL_law_388 : decode cL_law 388 = .ok (.iload 4, 2) := by decide +kernel
theorem dL_law_390 : decode cL_law 390 = .ok (.iconst 1, 1) := by decide +kernel
theorem dL_law_391 : decode cL_law 391 = .ok (.iadd, 1) := by decide +kernel
theorem dL_law_392 : decode cL_law 392 = .ok (.iaload, 1) := by decide +kernel
theorem dL_law_393 : decode cL_law 393 = .ok (.aload_n 0, 1) := by decide +kernel
theorem dL_law_394 : decode cL_law 394 = .ok (.iload 4, 2) := by decide +kernel
theorem dL_law_396 : decode cL_law 396 = .ok (.iconst 2, 1) := by decide +kernel
theorem dL_law_397 : decode cL_law 397 = .ok (.iadd, 1) := by decide +kernel
theorem dL_law_398 : decode cL_law 398 = .ok (.iaload, 1) := by decide +kernel
theorem dL_law_399 : decode cL_law 399 = .ok (.invokevirtual 96, 3) := by decide +kernel
theorem dL_law_402 : decode cL_law 402 = .ok (.if_icmp .eq 96, 3) := by decide +kernel
theorem dL_law_405 : decode cL_law 405 = .ok (.iconst 0, 1) := by decide +kernel
theorem dL_law_406 : decode cL_law 406 = .ok (.ireturn, 1) := by decide +kernel
theorem dL_law_407 : decode cL_law 407 = .ok (.aload_n 1, 1) := by decide +kernel
theorem dL_law_408 : decode cL_law 408 = .ok (.aload_n 0, 1) := by decide +kernel
theorem dL_law_409 : decode cL_law 409 = .ok (.iload 4, 2) := by decide +kernel
theorem dL_law_411 : decode cL_law 411 = .ok (.iconst 1, 1) := by decide +kernel
theorem dL_law_412 : decode cL_law 412 = .ok (.iadd, 1) := by decide +kernel
theorem dL_law_413 : decode cL_law 413 = .ok (.iaload, 1) := by decide +kernel
theorem dL_law_414 : decode cL_law 414 = .ok (.aload_n 0, 1) := by decide +kernel
theorem dL_law_415 : decode cL_law 415 = .ok (.iload 4, 2) := by decide +kernel
theorem dL_law_417 : decode cL_law 417 = .ok (.iconst 2, 1) := by decide +kernel
theorem dL_law_418 : decode cL_law 418 = .ok (.iadd, 1) := by decide +kernel
theorem dL_law_419 : decode cL_law 419 = .ok (.iaload, 1) := by decide +kernel
theorem dL_law_420 : decode cL_law 420 = .ok (.invokevirtual 97, 3) := by decide +kernel
theorem dL_law_423 : decode cL_law 423 = .ok (.pop, 1) := by decide +kernel
theorem dL_law_424 : decode cL_law 424 = .ok (.aload_n 2, 1) := by decide +kernel
theorem dL_law_425 : decode cL_law 425 = .ok (.aload_n 0, 1) := by decide +kernel
theorem dL_law_426 : decode cL_law 426 = .ok (.iload 4, 2) := by decide +kernel
theorem dL_law_428 : decode cL_law 428 = .ok (.iconst 1, 1) := by decide +kernel
theorem dL_law_429 : decode cL_law 429 = .ok (.iadd, 1) := by decide +kernel
theorem dL_law_430 : decode cL_law 430 = .ok (.iaload, 1) := by decide +kernel
theorem dL_law_431 : decode cL_law 431 = .ok (.aload_n 0, 1) := by decide +kernel
theorem dL_law_432 : decode cL_law 432 = .ok (.iload 4, 2) := by decide +kernel
theorem dL_law_434 : decode cL_law 434 = .ok (.iconst 2, 1) := by decide +kernel
theorem dL_law_435 : decode cL_law 435 = .ok (.iadd, 1) := by decide +kernel
theorem dL_law_436 : decode cL_law 436 = .ok (.iaload, 1) := by decide +kernel
theorem dL_law_437 : decode cL_law 437 = .ok (.invokevirtual 100, 3) := by decide +kernel
theorem dL_law_440 : decode cL_law 440 = .ok (.pop, 1) := by decide +kernel
theorem dL_law_441 : decode cL_law 441 = .ok (.goto 57, 3) := by decide +kernel
theorem dL_law_444 : decode cL_law 444 = .ok (.aload_n 1, 1) := by decide +kernel
theorem dL_law_445 : decode cL_law 445 = .ok (.aload_n 0, 1) := by decide +kernel
theorem dL_law_446 : decode cL_law 446 = .ok (.iload 4, 2) := by decide +kernel
theorem dL_law_448 : decode cL_law 448 = .ok (.iconst 1, 1) := by decide +kernel
theorem dL_law_449 : decode cL_law 449 = .ok (.iadd, 1) := by decide +kernel
theorem dL_law_450 : decode cL_law 450 = .ok (.iaload, 1) := by decide +kernel
theorem dL_law_451 : decode cL_law 451 = .ok (.invokevirtual 101, 3) := by decide +kernel
theorem dL_law_454 : decode cL_law 454 = .ok (.pop, 1) := by decide +kernel
theorem dL_law_455 : decode cL_law 455 = .ok (.aload_n 2, 1) := by decide +kernel
theorem dL_law_456 : decode cL_law 456 = .ok (.aload_n 0, 1) := by decide +kernel
theorem dL_law_457 : decode cL_law 457 = .ok (.iload 4, 2) := by decide +kernel
theorem dL_law_459 : decode cL_law 459 = .ok (.iconst 1, 1) := by decide +kernel
theorem dL_law_460 : decode cL_law 460 = .ok (.iadd, 1) := by decide +kernel
theorem dL_law_461 : decode cL_law 461 = .ok (.iaload, 1) := by decide +kernel
theorem dL_law_462 : decode cL_law 462 = .ok (.invokevirtual 105, 3) := by decide +kernel
theorem dL_law_465 : decode cL_law 465 = .ok (.pop, 1) := by decide +kernel
theorem dL_law_466 : decode cL_law 466 = .ok (.goto 32, 3) := by decide +kernel
theorem dL_law_469 : decode cL_law 469 = .ok (.aload_n 1, 1) := by decide +kernel
theorem dL_law_470 : decode cL_law 470 = .ok (.invokevirtual 106, 3) := by decide +kernel
theorem dL_law_473 : decode cL_law 473 = .ok (.pop, 1) := by decide +kernel
theorem dL_law_474 : decode cL_law 474 = .ok (.aload_n 2, 1) := by decide +kernel
theorem dL_law_475 : decode cL_law 475 = .ok (.invokevirtual 109, 3) := by decide +kernel
theorem dL_law_478 : decode cL_law 478 = .ok (.pop, 1) := by decide +kernel
theorem dL_law_479 : decode cL_law 479 = .ok (.goto 19, 3) := by decide +kernel
theorem dL_law_482 : decode cL_law 482 = .ok (.aload_n 1, 1) := by decide +kernel
theorem dL_law_483 : decode cL_law 483 = .ok (.aload_n 3, 1) := by decide +kernel
theorem dL_law_484 : decode cL_law 484 = .ok (.invokestatic 110, 3) := by decide +kernel
theorem dL_law_487 : decode cL_law 487 = .ok (.istore 5, 2) := by decide +kernel
theorem dL_law_489 : decode cL_law 489 = .ok (.aload_n 2, 1) := by decide +kernel
theorem dL_law_490 : decode cL_law 490 = .ok (.invokevirtual 112, 3) := by decide +kernel
theorem dL_law_493 : decode cL_law 493 = .ok (.lstore 6, 2) := by decide +kernel
theorem dL_law_495 : decode cL_law 495 = .ok (.goto 3, 3) := by decide +kernel
theorem dL_law_498 : decode cL_law 498 = .ok (.iinc 4 4, 3) := by decide +kernel
theorem dL_law_501 : decode cL_law 501 = .ok (.goto (-458), 3) := by decide +kernel
theorem dL_law_504 : decode cL_law 504 = .ok (.iconst 1, 1) := by decide +kernel
theorem dL_law_505 : decode cL_law 505 = .ok (.ireturn, 1) := by decide +kernel
theorem dX0_init_0 : decode cX0_init 0 = .ok (.aload_n 0, 1) := by decide +kernel
theorem dX0_init_1 : decode cX0_init 1 = .ok (.invokespecial 3, 3) := by decide +kernel
theorem dX0_init_4 : decode cX0_init 4 = .ok (.aload_n 0, 1) := by decide +kernel
theorem dX0_init_5 : decode cX0_init 5 = .ok (.bipush 10, 2) := by decide +kernel
theorem dX0_init_7 : decode cX0_init 7 = .ok (.newarray .long, 2) := by decide +kernel
theorem dX0_init_9 : decode cX0_init 9 = .ok (.putfield 9, 3) := by decide +kernel
theorem dX0_init_12 : decode cX0_init 12 = .ok (.return_, 1) := by decide +kernel
theorem dX0_isBlank_0 : decode cX0_isBlank 0 = .ok (.aload_n 0, 1) := by decide +kernel
theorem dX0_isBlank_1 : decode cX0_isBlank 1 = .ok (.getfield 15, 3) := by decide +kernel
theorem dX0_isBlank_4 : decode cX0_isBlank 4 = .ok (.ifCond .ne 7, 3) := by decide +kernel
theorem dX0_isBlank_7 : decode cX0_isBlank 7 = .ok (.iconst 1, 1) := by decide +kernel
theorem dX0_isBlank_8 : decode cX0_isBlank 8 = .ok (.goto 4, 3) := by decide +kernel
theorem dX0_isBlank_11 : decode cX0_isBlank 11 = .ok (.iconst 0, 1) := by decide +kernel
theorem dX0_isBlank_12 : decode cX0_isBlank 12 = .ok (.ireturn, 1) := by decide +kernel
theorem dX0_tell_0 : decode cX0_tell 0 = .ok (.aload_n 0, 1) := by decide +kernel
theorem dX0_tell_1 : decode cX0_tell 1 = .ok (.iload_n 1, 1) := by decide +kernel
theorem dX0_tell_2 : decode cX0_tell 2 = .ok (.putfield 15, 3) := by decide +kernel
theorem dX0_tell_5 : decode cX0_tell 5 = .ok (.iconst 0, 1) := by decide +kernel
theorem dX0_tell_6 : decode cX0_tell 6 = .ok (.istore_n 3, 1) := by decide +kernel
theorem dX0_tell_7 : decode cX0_tell 7 = .ok (.iload_n 3, 1) := by decide +kernel
theorem dX0_tell_8 : decode cX0_tell 8 = .ok (.aload_n 0, 1) := by decide +kernel
theorem dX0_tell_9 : decode cX0_tell 9 = .ok (.getfield 9, 3) := by decide +kernel
theorem dX0_tell_12 : decode cX0_tell 12 = .ok (.arraylength, 1) := by decide +kernel
theorem dX0_tell_13 : decode cX0_tell 13 = .ok (.if_icmp .ge 24, 3) := by decide +kernel
theorem dX0_tell_16 : decode cX0_tell 16 = .ok (.iload_n 3, 1) := by decide +kernel
theorem dX0_tell_17 : decode cX0_tell 17 = .ok (.aload_n 2, 1) := by decide +kernel
theorem dX0_tell_18 : decode cX0_tell 18 = .ok (.arraylength, 1) := by decide +kernel
theorem dX0_tell_19 : decode cX0_tell 19 = .ok (.if_icmp .ge 18, 3) := by decide +kernel
theorem dX0_tell_22 : decode cX0_tell 22 = .ok (.aload_n 0, 1) := by decide +kernel
theorem dX0_tell_23 : decode cX0_tell 23 = .ok (.getfield 9, 3) := by decide +kernel
theorem dX0_tell_26 : decode cX0_tell 26 = .ok (.iload_n 3, 1) := by decide +kernel
theorem dX0_tell_27 : decode cX0_tell 27 = .ok (.aload_n 2, 1) := by decide +kernel
theorem dX0_tell_28 : decode cX0_tell 28 = .ok (.iload_n 3, 1) := by decide +kernel
theorem dX0_tell_29 : decode cX0_tell 29 = .ok (.laload, 1) := by decide +kernel
theorem dX0_tell_30 : decode cX0_tell 30 = .ok (.lastore, 1) := by decide +kernel
theorem dX0_tell_31 : decode cX0_tell 31 = .ok (.iinc 3 1, 3) := by decide +kernel
theorem dX0_tell_34 : decode cX0_tell 34 = .ok (.goto (-27), 3) := by decide +kernel
theorem dX0_tell_37 : decode cX0_tell 37 = .ok (.return_, 1) := by decide +kernel
theorem dX0_copyTo_0 : decode cX0_copyTo 0 = .ok (.iconst 0, 1) := by decide +kernel
theorem dX0_copyTo_1 : decode cX0_copyTo 1 = .ok (.istore_n 2, 1) := by decide +kernel
theorem dX0_copyTo_2 : decode cX0_copyTo 2 = .ok (.iload_n 2, 1) := by decide +kernel
theorem dX0_copyTo_3 : decode cX0_copyTo 3 = .ok (.aload_n 0, 1) := by decide +kernel
theorem dX0_copyTo_4 : decode cX0_copyTo 4 = .ok (.getfield 9, 3) := by decide +kernel
theorem dX0_copyTo_7 : decode cX0_copyTo 7 = .ok (.arraylength, 1) := by decide +kernel
theorem dX0_copyTo_8 : decode cX0_copyTo 8 = .ok (.if_icmp .ge 24, 3) := by decide +kernel
theorem dX0_copyTo_11 : decode cX0_copyTo 11 = .ok (.iload_n 2, 1) := by decide +kernel
theorem dX0_copyTo_12 : decode cX0_copyTo 12 = .ok (.aload_n 1, 1) := by decide +kernel
theorem dX0_copyTo_13 : decode cX0_copyTo 13 = .ok (.arraylength, 1) := by decide +kernel
theorem dX0_copyTo_14 : decode cX0_copyTo 14 = .ok (.if_icmp .ge 18, 3) := by decide +kernel
theorem dX0_copyTo_17 : decode cX0_copyTo 17 = .ok (.aload_n 1, 1) := by decide +kernel
theorem dX0_copyTo_18 : decode cX0_copyTo 18 = .ok (.iload_n 2, 1) := by decide +kernel
theorem dX0_copyTo_19 : decode cX0_copyTo 19 = .ok (.aload_n 0, 1) := by decide +kernel
theorem dX0_copyTo_20 : decode cX0_copyTo 20 = .ok (.getfield 9, 3) := by decide +kernel
theorem dX0_copyTo_23 : decode cX0_copyTo 23 = .ok (.iload_n 2, 1) := by decide +kernel
theorem dX0_copyTo_24 : decode cX0_copyTo 24 = .ok (.laload, 1) := by decide +kernel
theorem dX0_copyTo_25 : decode cX0_copyTo 25 = .ok (.lastore, 1) := by decide +kernel
theorem dX0_copyTo_26 : decode cX0_copyTo 26 = .ok (.iinc 2 1, 3) := by decide +kernel
theorem dX0_copyTo_29 : decode cX0_copyTo 29 = .ok (.goto (-27), 3) := by decide +kernel
theorem dX0_copyTo_32 : decode cX0_copyTo 32 = .ok (.return_, 1) := by decide +kernel
theorem dX1_init_0 : decode cX1_init 0 = .ok (.aload_n 0, 1) := by decide +kernel
theorem dX1_init_1 : decode cX1_init 1 = .ok (.invokespecial 1, 3) := by decide +kernel
theorem dX1_init_4 : decode cX1_init 4 = .ok (.aload_n 0, 1) := by decide +kernel
theorem dX1_init_5 : decode cX1_init 5 = .ok (.new 7, 3) := by decide +kernel
theorem dX1_init_8 : decode cX1_init 8 = .ok (.dup, 1) := by decide +kernel
theorem dX1_init_9 : decode cX1_init 9 = .ok (.invokespecial 9, 3) := by decide +kernel
theorem dX1_init_12 : decode cX1_init 12 = .ok (.putfield 10, 3) := by decide +kernel
theorem dX1_init_15 : decode cX1_init 15 = .ok (.aload_n 0, 1) := by decide +kernel
theorem dX1_init_16 : decode cX1_init 16 = .ok (.new 16, 3) := by decide +kernel
theorem dX1_init_19 : decode cX1_init 19 = .ok (.dup, 1) := by decide +kernel
theorem dX1_init_20 : decode cX1_init 20 = .ok (.invokespecial 18, 3) := by decide +kernel
theorem dX1_init_23 : decode cX1_init 23 = .ok (.putfield 19, 3) := by decide +kernel
theorem dX1_init_26 : decode cX1_init 26 = .ok (.aload_n 0, 1) := by decide +kernel
theorem dX1_init_27 : decode cX1_init 27 = .ok (.new 23, 3) := by decide +kernel
theorem dX1_init_30 : decode cX1_init 30 = .ok (.dup, 1) := by decide +kernel
theorem dX1_init_31 : decode cX1_init 31 = .ok (.invokespecial 25, 3) := by decide +kernel
theorem dX1_init_34 : decode cX1_init 34 = .ok (.putfield 26, 3) := by decide +kernel
theorem dX1_init_37 : decode cX1_init 37 = .ok (.aload_n 0, 1) := by decide +kernel
theorem dX1_init_38 : decode cX1_init 38 = .ok (.iload_n 1, 1) := by decide +kernel
theorem dX1_init_39 : decode cX1_init 39 = .ok (.ifCond .ge 7, 3) := by decide +kernel
theorem dX1_init_42 : decode cX1_init 42 = .ok (.iconst 0, 1) := by decide +kernel
theorem dX1_init_43 : decode cX1_init 43 = .ok (.goto 4, 3) := by decide +kernel
theorem dX1_init_46 : decode cX1_init 46 = .ok (.iload_n 1, 1) := by decide +kernel
theorem dX1_init_47 : decode cX1_init 47 = .ok (.newarray .long, 2) := by decide +kernel
theorem dX1_init_49 : decode cX1_init 49 = .ok (.putfield 30, 3) := by decide +kernel
theorem dX1_init_52 : decode cX1_init 52 = .ok (.return_, 1) := by decide +kernel
theorem dX1_isLive_0 : decode cX1_isLive 0 = .ok (.aload_n 0, 1) := by decide +kernel
theorem dX1_isLive_1 : decode cX1_isLive 1 = .ok (.getfield 34, 3) := by decide +kernel
theorem dX1_isLive_4 : decode cX1_isLive 4 = .ok (.ifCond .ne 17, 3) := by decide +kernel
theorem dX1_isLive_7 : decode cX1_isLive 7 = .ok (.aload_n 0, 1) := by decide +kernel
theorem dX1_isLive_8 : decode cX1_isLive 8 = .ok (.getfield 10, 3) := by decide +kernel
theorem dX1_isLive_11 : decode cX1_isLive 11 = .ok (.getfield 38, 3) := by decide +kernel
theorem dX1_isLive_14 : decode cX1_isLive 14 = .ok (.ifCond .eq 7, 3) := by decide +kernel
theorem dX1_isLive_17 : decode cX1_isLive 17 = .ok (.iconst 1, 1) := by decide +kernel
theorem dX1_isLive_18 : decode cX1_isLive 18 = .ok (.goto 4, 3) := by decide +kernel
theorem dX1_isLive_21 : decode cX1_isLive 21 = .ok (.iconst 0, 1) := by decide +kernel
theorem dX1_isLive_22 : decode cX1_isLive 22 = .ok (.ireturn, 1) := by decide +kernel
theorem dX1_isRebuilding_0 : decode cX1_isRebuilding 0 = .ok (.aload_n 0, 1) := by decide +kernel
theorem dX1_isRebuilding_1 : decode cX1_isRebuilding 1 = .ok (.getfield 34, 3) := by decide +kernel
theorem dX1_isRebuilding_4 : decode cX1_isRebuilding 4 = .ok (.ifCond .ne 17, 3) := by decide +kernel
theorem dX1_isRebuilding_7 : decode cX1_isRebuilding 7 = .ok (.aload_n 0, 1) := by decide +kernel
theorem dX1_isRebuilding_8 : decode cX1_isRebuilding 8 = .ok (.getfield 10, 3) := by decide +kernel
theorem dX1_isRebuilding_11 : decode cX1_isRebuilding 11 = .ok (.getfield 38, 3) := by decide +kernel
theorem dX1_isRebuilding_14 : decode cX1_isRebuilding 14 = .ok (.ifCond .ne 7, 3) := by decide +kernel
theorem dX1_isRebuilding_17 : decode cX1_isRebuilding 17 = .ok (.iconst 1, 1) := by decide +kernel
theorem dX1_isRebuilding_18 : decode cX1_isRebuilding 18 = .ok (.goto 4, 3) := by decide +kernel
theorem dX1_isRebuilding_21 : decode cX1_isRebuilding 21 = .ok (.iconst 0, 1) := by decide +kernel
theorem dX1_isRebuilding_22 : decode cX1_isRebuilding 22 = .ok (.ireturn, 1) := by decide +kernel
theorem dX1_condition_0 : decode cX1_condition 0 = .ok (.aload_n 0, 1) := by decide +kernel
theorem dX1_condition_1 : decode cX1_condition 1 = .ok (.getfield 34, 3) := by decide +kernel
theorem dX1_condition_4 : decode cX1_condition 4 = .ok (.ifCond .eq 5, 3) := by decide +kernel
theorem dX1_condition_7 : decode cX1_condition 7 = .ok (.iconst 1, 1) := by decide +kernel
theorem dX1_condition_8 : decode cX1_condition 8 = .ok (.ireturn, 1) := by decide +kernel
theorem dX1_condition_9 : decode cX1_condition 9 = .ok (.aload_n 0, 1) := by decide +kernel
theorem dX1_condition_10 : decode cX1_condition 10 = .ok (.invokevirtual 42, 3) := by decide +kernel
theorem dX1_condition_13 : decode cX1_condition 13 = .ok (.ifCond .eq 7, 3) := by decide +kernel
theorem dX1_condition_16 : decode cX1_condition 16 = .ok (.iconst 2, 1) := by decide +kernel
theorem dX1_condition_17 : decode cX1_condition 17 = .ok (.goto 4, 3) := by decide +kernel
theorem dX1_condition_20 : decode cX1_condition 20 = .ok (.iconst 0, 1) := by decide +kernel
theorem dX1_condition_21 : decode cX1_condition 21 = .ok (.ireturn, 1) := by decide +kernel
theorem dX1_blockAt_0 : decode cX1_blockAt 0 = .ok (.iload_n 1, 1) := by decide +kernel
theorem dX1_blockAt_1 : decode cX1_blockAt 1 = .ok (.ifCond .lt 21, 3) := by decide +kernel
theorem dX1_blockAt_4 : decode cX1_blockAt 4 = .ok (.iload_n 1, 1) := by decide +kernel
theorem dX1_blockAt_5 : decode cX1_blockAt 5 = .ok (.aload_n 0, 1) := by decide +kernel
theorem dX1_blockAt_6 : decode cX1_blockAt 6 = .ok (.getfield 30, 3) := by decide +kernel
theorem dX1_blockAt_9 : decode cX1_blockAt 9 = .ok (.arraylength, 1) := by decide +kernel
theorem dX1_blockAt_10 : decode cX1_blockAt 10 = .ok (.if_icmp .ge 12, 3) := by decide +kernel
theorem dX1_blockAt_13 : decode cX1_blockAt 13 = .ok (.aload_n 0, 1) := by decide +kernel
theorem dX1_blockAt_14 : decode cX1_blockAt 14 = .ok (.getfield 30, 3) := by decide +kernel
theorem dX1_blockAt_17 : decode cX1_blockAt 17 = .ok (.iload_n 1, 1) := by decide +kernel
theorem dX1_blockAt_18 : decode cX1_blockAt 18 = .ok (.laload, 1) := by decide +kernel
theorem dX1_blockAt_19 : decode cX1_blockAt 19 = .ok (.goto 4, 3) := by decide +kernel
theorem dX1_blockAt_22 : decode cX1_blockAt 22 = .ok (.lconst 0, 1) := by decide +kernel
theorem dX1_blockAt_23 : decode cX1_blockAt 23 = .ok (.lreturn, 1) := by decide +kernel
theorem dX1_takeBlock_0 : decode cX1_takeBlock 0 = .ok (.iload_n 1, 1) := by decide +kernel
theorem dX1_takeBlock_1 : decode cX1_takeBlock 1 = .ok (.ifCond .lt 29, 3) := by decide +kernel
theorem dX1_takeBlock_4 : decode cX1_takeBlock 4 = .ok (.iload_n 1, 1) := by decide +kernel
theorem dX1_takeBlock_5 : decode cX1_takeBlock 5 = .ok (.aload_n 0, 1) := by decide +kernel
theorem dX1_takeBlock_6 : decode cX1_takeBlock 6 = .ok (.getfield 30, 3) := by decide +kernel
theorem dX1_takeBlock_9 : decode cX1_takeBlock 9 = .ok (.arraylength, 1) := by decide +kernel
theorem dX1_takeBlock_10 : decode cX1_takeBlock 10 = .ok (.if_icmp .ge 20, 3) := by decide +kernel
theorem dX1_takeBlock_13 : decode cX1_takeBlock 13 = .ok (.aload_n 0, 1) := by decide +kernel
theorem dX1_takeBlock_14 : decode cX1_takeBlock 14 = .ok (.getfield 30, 3) := by decide +kernel
theorem dX1_takeBlock_17 : decode cX1_takeBlock 17 = .ok (.iload_n 1, 1) := by decide +kernel
theorem dX1_takeBlock_18 : decode cX1_takeBlock 18 = .ok (.lload_n 2, 1) := by decide +kernel
theorem dX1_takeBlock_19 : decode cX1_takeBlock 19 = .ok (.lastore, 1) := by decide +kernel
theorem dX1_takeBlock_20 : decode cX1_takeBlock 20 = .ok (.aload_n 0, 1) := by decide +kernel
theorem dX1_takeBlock_21 : decode cX1_takeBlock 21 = .ok (.dup, 1) := by decide +kernel
theorem dX1_takeBlock_22 : decode cX1_takeBlock 22 = .ok (.getfield 46, 3) := by decide +kernel
theorem dX1_takeBlock_25 : decode cX1_takeBlock 25 = .ok (.iconst 1, 1) := by decide +kernel
theorem dX1_takeBlock_26 : decode cX1_takeBlock 26 = .ok (.iadd, 1) := by decide +kernel
theorem dX1_takeBlock_27 : decode cX1_takeBlock 27 = .ok (.putfield 46, 3) := by decide +kernel
theorem dX1_takeBlock_30 : decode cX1_takeBlock 30 = .ok (.return_, 1) := by decide +kernel
theorem dX1_takeSuper_0 : decode cX1_takeSuper 0 = .ok (.aload_n 0, 1) := by decide +kernel
theorem dX1_takeSuper_1 : decode cX1_takeSuper 1 = .ok (.getfield 10, 3) := by decide +kernel
theorem dX1_takeSuper_4 : decode cX1_takeSuper 4 = .ok (.iload_n 1, 1) := by decide +kernel
theorem dX1_takeSuper_5 : decode cX1_takeSuper 5 = .ok (.iload_n 2, 1) := by decide +kernel
theorem dX1_takeSuper_6 : decode cX1_takeSuper 6 = .ok (.iload_n 3, 1) := by decide +kernel
theorem dX1_takeSuper_7 : decode cX1_takeSuper 7 = .ok (.iload 4, 2) := by decide +kernel
theorem dX1_takeSuper_9 : decode cX1_takeSuper 9 = .ok (.invokevirtual 49, 3) := by decide +kernel
theorem dX1_takeSuper_12 : decode cX1_takeSuper 12 = .ok (.aload_n 0, 1) := by decide +kernel
theorem dX1_takeSuper_13 : decode cX1_takeSuper 13 = .ok (.dup, 1) := by decide +kernel
theorem dX1_takeSuper_14 : decode cX1_takeSuper 14 = .ok (.getfield 46, 3) := by decide +kernel
theorem dX1_takeSuper_17 : decode cX1_takeSuper 17 = .ok (.iconst 1, 1) := by decide +kernel
theorem dX1_takeSuper_18 : decode cX1_takeSuper 18 = .ok (.iadd, 1) := by decide +kernel
theorem dX1_takeSuper_19 : decode cX1_takeSuper 19 = .ok (.putfield 46, 3) := by decide +kernel
theorem dX1_takeSuper_22 : decode cX1_takeSuper 22 = .ok (.return_, 1) := by decide +kernel
theorem dX1_takeSuper__0 : decode cX1_takeSuper_ 0 = .ok (.aload_n 0, 1) := by decide +kernel
theorem dX1_takeSuper__1 : decode cX1_takeSuper_ 1 = .ok (.getfield 10, 3) := by decide +kernel
theorem dX1_takeSuper__4 : decode cX1_takeSuper_ 4 = .ok (.aload_n 1, 1) := by decide +kernel
theorem dX1_takeSuper__5 : decode cX1_takeSuper_ 5 = .ok (.invokevirtual 53, 3) := by decide +kernel
theorem dX1_takeSuper__8 : decode cX1_takeSuper_ 8 = .ok (.aload_n 0, 1) := by decide +kernel
theorem dX1_takeSuper__9 : decode cX1_takeSuper_ 9 = .ok (.dup, 1) := by decide +kernel
theorem dX1_takeSuper__10 : decode cX1_takeSuper_ 10 = .ok (.getfield 46, 3) := by decide +kernel
theorem dX1_takeSuper__13 : decode cX1_takeSuper_ 13 = .ok (.iconst 1, 1) := by decide +kernel
theorem dX1_takeSuper__14 : decode cX1_takeSuper_ 14 = .ok (.iadd, 1) := by decide +kernel
theorem dX1_takeSuper__15 : decode cX1_takeSuper_ 15 = .ok (.putfield 46, 3) := by decide +kernel
theorem dX1_takeSuper__18 : decode cX1_takeSuper_ 18 = .ok (.return_, 1) := by decide +kernel
theorem dX1_takeJournal_0 : decode cX1_takeJournal 0 = .ok (.aload_n 0, 1) := by decide +kernel
theorem dX1_takeJournal_1 : decode cX1_takeJournal 1 = .ok (.getfield 19, 3) := by decide +kernel
theorem dX1_takeJournal_4 : decode cX1_takeJournal 4 = .ok (.aload_n 1, 1) := by decide +kernel
theorem dX1_takeJournal_5 : decode cX1_takeJournal 5 = .ok (.invokevirtual 57, 3) := by decide +kernel
theorem dX1_takeJournal_8 : decode cX1_takeJournal 8 = .ok (.aload_n 0, 1) := by decide +kernel
theorem dX1_takeJournal_9 : decode cX1_takeJournal 9 = .ok (.dup, 1) := by decide +kernel
theorem dX1_takeJournal_10 : decode cX1_takeJournal 10 = .ok (.getfield 46, 3) := by decide +kernel
theorem dX1_takeJournal_13 : decode cX1_takeJournal 13 = .ok (.iconst 1, 1) := by decide +kernel
theorem dX1_takeJournal_14 : decode cX1_takeJournal 14 = .ok (.iadd, 1) := by decide +kernel
theorem dX1_takeJournal_15 : decode cX1_takeJournal 15 = .ok (.putfield 46, 3) := by decide +kernel
theorem dX1_takeJournal_18 : decode cX1_takeJournal 18 = .ok (.return_, 1) := by decide +kernel
theorem dX1_takeBackup_0 : decode cX1_takeBackup 0 = .ok (.aload_n 0, 1) := by decide +kernel
theorem dX1_takeBackup_1 : decode cX1_takeBackup 1 = .ok (.getfield 26, 3) := by decide +kernel
theorem dX1_takeBackup_4 : decode cX1_takeBackup 4 = .ok (.iload_n 1, 1) := by decide +kernel
theorem dX1_takeBackup_5 : decode cX1_takeBackup 5 = .ok (.aload_n 2, 1) := by decide +kernel
theorem dX1_takeBackup_6 : decode cX1_takeBackup 6 = .ok (.invokevirtual 60, 3) := by decide +kernel
theorem dX1_takeBackup_9 : decode cX1_takeBackup 9 = .ok (.aload_n 0, 1) := by decide +kernel
theorem dX1_takeBackup_10 : decode cX1_takeBackup 10 = .ok (.dup, 1) := by decide +kernel
theorem dX1_takeBackup_11 : decode cX1_takeBackup 11 = .ok (.getfield 46, 3) := by decide +kernel
theorem dX1_takeBackup_14 : decode cX1_takeBackup 14 = .ok (.iconst 1, 1) := by decide +kernel
theorem dX1_takeBackup_15 : decode cX1_takeBackup 15 = .ok (.iadd, 1) := by decide +kernel
theorem dX1_takeBackup_16 : decode cX1_takeBackup 16 = .ok (.putfield 46, 3) := by decide +kernel
theorem dX1_takeBackup_19 : decode cX1_takeBackup 19 = .ok (.return_, 1) := by decide +kernel
theorem dX1_renew_0 : decode cX1_renew 0 = .ok (.iconst 0, 1) := by decide +kernel
theorem dX1_renew_1 : decode cX1_renew 1 = .ok (.istore_n 1, 1) := by decide +kernel
theorem dX1_renew_2 : decode cX1_renew 2 = .ok (.iload_n 1, 1) := by decide +kernel
theorem dX1_renew_3 : decode cX1_renew 3 = .ok (.aload_n 0, 1) := by decide +kernel
theorem dX1_renew_4 : decode cX1_renew 4 = .ok (.getfield 30, 3) := by decide +kernel
theorem dX1_renew_7 : decode cX1_renew 7 = .ok (.arraylength, 1) := by decide +kernel
theorem dX1_renew_8 : decode cX1_renew 8 = .ok (.if_icmp .ge 16, 3) := by decide +kernel
theorem dX1_renew_11 : decode cX1_renew 11 = .ok (.aload_n 0, 1) := by decide +kernel
theorem dX1_renew_12 : decode cX1_renew 12 = .ok (.getfield 30, 3) := by decide +kernel
theorem dX1_renew_15 : decode cX1_renew 15 = .ok (.iload_n 1, 1) := by decide +kernel
theorem dX1_renew_16 : decode cX1_renew 16 = .ok (.lconst 0, 1) := by decide +kernel
theorem dX1_renew_17 : decode cX1_renew 17 = .ok (.lastore, 1) := by decide +kernel
theorem dX1_renew_18 : decode cX1_renew 18 = .ok (.iinc 1 1, 3) := by decide +kernel
theorem dX1_renew_21 : decode cX1_renew 21 = .ok (.goto (-19), 3) := by decide +kernel
theorem dX1_renew_24 : decode cX1_renew 24 = .ok (.aload_n 0, 1) := by decide +kernel
theorem dX1_renew_25 : decode cX1_renew 25 = .ok (.getfield 10, 3) := by decide +kernel
theorem dX1_renew_28 : decode cX1_renew 28 = .ok (.iconst 0, 1) := by decide +kernel
theorem dX1_renew_29 : decode cX1_renew 29 = .ok (.iconst 0, 1) := by decide +kernel
theorem dX1_renew_30 : decode cX1_renew 30 = .ok (.iconst 0, 1) := by decide +kernel
theorem dX1_renew_31 : decode cX1_renew 31 = .ok (.iconst 0, 1) := by decide +kernel
theorem dX1_renew_32 : decode cX1_renew 32 = .ok (.invokevirtual 49, 3) := by decide +kernel
theorem dX1_renew_35 : decode cX1_renew 35 = .ok (.aload_n 0, 1) := by decide +kernel
theorem dX1_renew_36 : decode cX1_renew 36 = .ok (.getfield 19, 3) := by decide +kernel
theorem dX1_renew_39 : decode cX1_renew 39 = .ok (.invokevirtual 63, 3) := by decide +kernel
theorem dX1_renew_42 : decode cX1_renew 42 = .ok (.aload_n 0, 1) := by decide +kernel
theorem dX1_renew_43 : decode cX1_renew 43 = .ok (.getfield 26, 3) := by decide +kernel
theorem dX1_renew_46 : decode cX1_renew 46 = .ok (.iconst 0, 1) := by decide +kernel
theorem dX1_renew_47 : decode cX1_renew 47 = .ok (.putfield 66, 3) := by decide +kernel
theorem dX1_renew_50 : decode cX1_renew 50 = .ok (.aload_n 0, 1) := by decide +kernel
theorem dX1_renew_51 : decode cX1_renew 51 = .ok (.iconst 0, 1) := by decide +kernel
theorem dX1_renew_52 : decode cX1_renew 52 = .ok (.putfield 34, 3) := by decide +kernel
theorem dX1_renew_55 : decode cX1_renew 55 = .ok (.aload_n 0, 1) := by decide +kernel
theorem dX1_renew_56 : decode cX1_renew 56 = .ok (.iconst 0, 1) := by decide +kernel
theorem dX1_renew_57 : decode cX1_renew 57 = .ok (.putfield 46, 3) := by decide +kernel
theorem dX1_renew_60 : decode cX1_renew 60 = .ok (.return_, 1) := by decide +kernel
theorem dX2_init_0 : decode cX2_init 0 = .ok (.aload_n 0, 1) := by decide +kernel
theorem dX2_init_1 : decode cX2_init 1 = .ok (.invokespecial 1, 3) := by decide +kernel
theorem dX2_init_4 : decode cX2_init 4 = .ok (.return_, 1) := by decide +kernel
theorem dX2_tell_0 : decode cX2_tell 0 = .ok (.aload_n 0, 1) := by decide +kernel
theorem dX2_tell_1 : decode cX2_tell 1 = .ok (.iload_n 1, 1) := by decide +kernel
theorem dX2_tell_2 : decode cX2_tell 2 = .ok (.putfield 7, 3) := by decide +kernel
theorem dX2_tell_5 : decode cX2_tell 5 = .ok (.aload_n 0, 1) := by decide +kernel
theorem dX2_tell_6 : decode cX2_tell 6 = .ok (.iload_n 2, 1) := by decide +kernel
theorem dX2_tell_7 : decode cX2_tell 7 = .ok (.putfield 13, 3) := by decide +kernel
theorem dX2_tell_10 : decode cX2_tell 10 = .ok (.aload_n 0, 1) := by decide +kernel
theorem dX2_tell_11 : decode cX2_tell 11 = .ok (.iload_n 3, 1) := by decide +kernel
theorem dX2_tell_12 : decode cX2_tell 12 = .ok (.putfield 16, 3) := by decide +kernel
theorem dX2_tell_15 : decode cX2_tell 15 = .ok (.aload_n 0, 1) := by decide +kernel
theorem dX2_tell_16 : decode cX2_tell 16 = .ok (.iload 4, 2) := by decide +kernel
theorem dX2_tell_18 : decode cX2_tell 18 = .ok (.putfield 19, 3) := by decide +kernel
theorem dX2_tell_21 : decode cX2_tell 21 = .ok (.aload_n 0, 1) := by decide +kernel
theorem dX2_tell_22 : decode cX2_tell 22 = .ok (.iload 5, 2) := by decide +kernel
theorem dX2_tell_24 : decode cX2_tell 24 = .ok (.putfield 22, 3) := by decide +kernel
theorem dX2_tell_27 : decode cX2_tell 27 = .ok (.return_, 1) := by decide +kernel
theorem dX2_copyFrom_0 : decode cX2_copyFrom 0 = .ok (.aload_n 0, 1) := by decide +kernel
theorem dX2_copyFrom_1 : decode cX2_copyFrom 1 = .ok (.aload_n 1, 1) := by decide +kernel
theorem dX2_copyFrom_2 : decode cX2_copyFrom 2 = .ok (.getfield 7, 3) := by decide +kernel
theorem dX2_copyFrom_5 : decode cX2_copyFrom 5 = .ok (.aload_n 1, 1) := by decide +kernel
theorem dX2_copyFrom_6 : decode cX2_copyFrom 6 = .ok (.getfield 13, 3) := by decide +kernel
theorem dX2_copyFrom_9 : decode cX2_copyFrom 9 = .ok (.aload_n 1, 1) := by decide +kernel
theorem dX2_copyFrom_10 : decode cX2_copyFrom 10 = .ok (.getfield 16, 3) := by decide +kernel
theorem dX2_copyFrom_13 : decode cX2_copyFrom 13 = .ok (.aload_n 1, 1) := by decide +kernel
theorem dX2_copyFrom_14 : decode cX2_copyFrom 14 = .ok (.getfield 19, 3) := by decide +kernel
theorem dX2_copyFrom_17 : decode cX2_copyFrom 17 = .ok (.aload_n 1, 1) := by decide +kernel
theorem dX2_copyFrom_18 : decode cX2_copyFrom 18 = .ok (.getfield 22, 3) := by decide +kernel
theorem dX2_copyFrom_21 : decode cX2_copyFrom 21 = .ok (.invokevirtual 25, 3) := by decide +kernel
theorem dX2_copyFrom_24 : decode cX2_copyFrom 24 = .ok (.aload_n 0, 1) := by decide +kernel
theorem dX2_copyFrom_25 : decode cX2_copyFrom 25 = .ok (.aload_n 1, 1) := by decide +kernel
theorem dX2_copyFrom_26 : decode cX2_copyFrom 26 = .ok (.getfield 29, 3) := by decide +kernel
theorem dX2_copyFrom_29 : decode cX2_copyFrom 29 = .ok (.putfield 29, 3) := by decide +kernel
theorem dX2_copyFrom_32 : decode cX2_copyFrom 32 = .ok (.aload_n 0, 1) := by decide +kernel
theorem dX2_copyFrom_33 : decode cX2_copyFrom 33 = .ok (.aload_n 1, 1) := by decide +kernel
theorem dX2_copyFrom_34 : decode cX2_copyFrom 34 = .ok (.getfield 33, 3) := by decide +kernel
theorem dX2_copyFrom_37 : decode cX2_copyFrom 37 = .ok (.putfield 33, 3) := by decide +kernel
theorem dX2_copyFrom_40 : decode cX2_copyFrom 40 = .ok (.return_, 1) := by decide +kernel
theorem dX2_erase_0 : decode cX2_erase 0 = .ok (.aload_n 0, 1) := by decide +kernel
theorem dX2_erase_1 : decode cX2_erase 1 = .ok (.iconst 0, 1) := by decide +kernel
theorem dX2_erase_2 : decode cX2_erase 2 = .ok (.iconst 0, 1) := by decide +kernel
theorem dX2_erase_3 : decode cX2_erase 3 = .ok (.iconst 0, 1) := by decide +kernel
theorem dX2_erase_4 : decode cX2_erase 4 = .ok (.iconst 0, 1) := by decide +kernel
theorem dX2_erase_5 : decode cX2_erase 5 = .ok (.iconst 0, 1) := by decide +kernel
theorem dX2_erase_6 : decode cX2_erase 6 = .ok (.invokevirtual 25, 3) := by decide +kernel
theorem dX2_erase_9 : decode cX2_erase 9 = .ok (.aload_n 0, 1) := by decide +kernel
theorem dX2_erase_10 : decode cX2_erase 10 = .ok (.lconst 0, 1) := by decide +kernel
theorem dX2_erase_11 : decode cX2_erase 11 = .ok (.putfield 29, 3) := by decide +kernel
theorem dX2_erase_14 : decode cX2_erase 14 = .ok (.aload_n 0, 1) := by decide +kernel
theorem dX2_erase_15 : decode cX2_erase 15 = .ok (.lconst 0, 1) := by decide +kernel
theorem dX2_erase_16 : decode cX2_erase 16 = .ok (.putfield 33, 3) := by decide +kernel
theorem dX2_erase_19 : decode cX2_erase 19 = .ok (.return_, 1) := by decide +kernel
theorem dX3_init_0 : decode cX3_init 0 = .ok (.aload_n 0, 1) := by decide +kernel
theorem dX3_init_1 : decode cX3_init 1 = .ok (.invokespecial 1, 3) := by decide +kernel
theorem dX3_init_4 : decode cX3_init 4 = .ok (.return_, 1) := by decide +kernel
theorem dX3_tell_0 : decode cX3_tell 0 = .ok (.aload_n 0, 1) := by decide +kernel
theorem dX3_tell_1 : decode cX3_tell 1 = .ok (.iload_n 1, 1) := by decide +kernel
theorem dX3_tell_2 : decode cX3_tell 2 = .ok (.putfield 7, 3) := by decide +kernel
theorem dX3_tell_5 : decode cX3_tell 5 = .ok (.aload_n 0, 1) := by decide +kernel
theorem dX3_tell_6 : decode cX3_tell 6 = .ok (.iload_n 2, 1) := by decide +kernel
theorem dX3_tell_7 : decode cX3_tell 7 = .ok (.putfield 13, 3) := by decide +kernel
theorem dX3_tell_10 : decode cX3_tell 10 = .ok (.aload_n 0, 1) := by decide +kernel
theorem dX3_tell_11 : decode cX3_tell 11 = .ok (.iload_n 3, 1) := by decide +kernel
theorem dX3_tell_12 : decode cX3_tell 12 = .ok (.putfield 16, 3) := by decide +kernel
theorem dX3_tell_15 : decode cX3_tell 15 = .ok (.aload_n 0, 1) := by decide +kernel
theorem dX3_tell_16 : decode cX3_tell 16 = .ok (.iload 4, 2) := by decide +kernel
theorem dX3_tell_18 : decode cX3_tell 18 = .ok (.putfield 19, 3) := by decide +kernel
theorem dX3_tell_21 : decode cX3_tell 21 = .ok (.return_, 1) := by decide +kernel
theorem dX3_copyFrom_0 : decode cX3_copyFrom 0 = .ok (.aload_n 0, 1) := by decide +kernel
theorem dX3_copyFrom_1 : decode cX3_copyFrom 1 = .ok (.aload_n 1, 1) := by decide +kernel
theorem dX3_copyFrom_2 : decode cX3_copyFrom 2 = .ok (.getfield 7, 3) := by decide +kernel
theorem dX3_copyFrom_5 : decode cX3_copyFrom 5 = .ok (.aload_n 1, 1) := by decide +kernel
theorem dX3_copyFrom_6 : decode cX3_copyFrom 6 = .ok (.getfield 13, 3) := by decide +kernel
theorem dX3_copyFrom_9 : decode cX3_copyFrom 9 = .ok (.aload_n 1, 1) := by decide +kernel
theorem dX3_copyFrom_10 : decode cX3_copyFrom 10 = .ok (.getfield 16, 3) := by decide +kernel
theorem dX3_copyFrom_13 : decode cX3_copyFrom 13 = .ok (.aload_n 1, 1) := by decide +kernel
theorem dX3_copyFrom_14 : decode cX3_copyFrom 14 = .ok (.getfield 19, 3) := by decide +kernel
theorem dX3_copyFrom_17 : decode cX3_copyFrom 17 = .ok (.invokevirtual 22, 3) := by decide +kernel
theorem dX3_copyFrom_20 : decode cX3_copyFrom 20 = .ok (.return_, 1) := by decide +kernel
