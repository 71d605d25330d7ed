theorem dX5_init_0 : decode cX5_init 0 = .ok (.aload_n 0, 1) := by decide +kernel
theorem dX5_init_1 : decode cX5_init 1 = .ok (.invokespecial 1, 3) := by decide +kernel
theorem dX5_init_4 : decode cX5_init 4 = .ok (.aload_n 0, 1) := by decide +kernel
theorem dX5_init_5 : decode cX5_init 5 = .ok (.bipush 10, 2) := by decide +kernel
theorem dX5_init_7 : decode cX5_init 7 = .ok (.newarray .int, 2) := by decide +kernel
theorem dX5_init_9 : decode cX5_init 9 = .ok (.putfield 9, 3) := by decide +kernel
theorem dX5_init_12 : decode cX5_init 12 = .ok (.aload_n 0, 1) := by decide +kernel
theorem dX5_init_13 : decode cX5_init 13 = .ok (.bipush 10, 2) := by decide +kernel
theorem dX5_init_15 : decode cX5_init 15 = .ok (.newarray .int, 2) := by decide +kernel
theorem dX5_init_17 : decode cX5_init 17 = .ok (.putfield 13, 3) := by decide +kernel
theorem dX5_init_20 : decode cX5_init 20 = .ok (.aload_n 0, 1) := by decide +kernel
theorem dX5_init_21 : decode cX5_init 21 = .ok (.bipush 10, 2) := by decide +kernel
theorem dX5_init_23 : decode cX5_init 23 = .ok (.newarray .int, 2) := by decide +kernel
theorem dX5_init_25 : decode cX5_init 25 = .ok (.putfield 16, 3) := by decide +kernel
theorem dX5_init_28 : decode cX5_init 28 = .ok (.aload_n 0, 1) := by decide +kernel
theorem dX5_init_29 : decode cX5_init 29 = .ok (.bipush 10, 2) := by decide +kernel
theorem dX5_init_31 : decode cX5_init 31 = .ok (.newarray .int, 2) := by decide +kernel
theorem dX5_init_33 : decode cX5_init 33 = .ok (.putfield 19, 3) := by decide +kernel
theorem dX5_init_36 : decode cX5_init 36 = .ok (.aload_n 0, 1) := by decide +kernel
theorem dX5_init_37 : decode cX5_init 37 = .ok (.bipush 10, 2) := by decide +kernel
theorem dX5_init_39 : decode cX5_init 39 = .ok (.newarray .int, 2) := by decide +kernel
theorem dX5_init_41 : decode cX5_init 41 = .ok (.putfield 22, 3) := by decide +kernel
theorem dX5_init_44 : decode cX5_init 44 = .ok (.aload_n 0, 1) := by decide +kernel
theorem dX5_init_45 : decode cX5_init 45 = .ok (.bipush 10, 2) := by decide +kernel
theorem dX5_init_47 : decode cX5_init 47 = .ok (.newarray .int, 2) := by decide +kernel
theorem dX5_init_49 : decode cX5_init 49 = .ok (.putfield 25, 3) := by decide +kernel
theorem dX5_init_52 : decode cX5_init 52 = .ok (.aload_n 0, 1) := by decide +kernel
theorem dX5_init_53 : decode cX5_init 53 = .ok (.bipush 10, 2) := by decide +kernel
theorem dX5_init_55 : decode cX5_init 55 = .ok (.newarray .int, 2) := by decide +kernel
theorem dX5_init_57 : decode cX5_init 57 = .ok (.putfield 28, 3) := by decide +kernel
theorem dX5_init_60 : decode cX5_init 60 = .ok (.aload_n 0, 1) := by decide +kernel
theorem dX5_init_61 : decode cX5_init 61 = .ok (.bipush 10, 2) := by decide +kernel
theorem dX5_init_63 : decode cX5_init 63 = .ok (.newarray .int, 2) := by decide +kernel
theorem dX5_init_65 : decode cX5_init 65 = .ok (.putfield 31, 3) := by decide +kernel
theorem dX5_init_68 : decode cX5_init 68 = .ok (.aload_n 0, 1) := by decide +kernel
theorem dX5_init_69 : decode cX5_init 69 = .ok (.bipush 10, 2) := by decide +kernel
theorem dX5_init_71 : decode cX5_init 71 = .ok (.newarray .int, 2) := by decide +kernel
theorem dX5_init_73 : decode cX5_init 73 = .ok (.putfield 34, 3) := by decide +kernel
theorem dX5_init_76 : decode cX5_init 76 = .ok (.aload_n 0, 1) := by decide +kernel
theorem dX5_init_77 : decode cX5_init 77 = .ok (.bipush 10, 2) := by decide +kernel
theorem dX5_init_79 : decode cX5_init 79 = .ok (.newarray .int, 2) := by decide +kernel
theorem dX5_init_81 : decode cX5_init 81 = .ok (.putfield 37, 3) := by decide +kernel
theorem dX5_init_84 : decode cX5_init 84 = .ok (.aload_n 0, 1) := by decide +kernel
theorem dX5_init_85 : decode cX5_init 85 = .ok (.bipush 10, 2) := by decide +kernel
theorem dX5_init_87 : decode cX5_init 87 = .ok (.newarray .long, 2) := by decide +kernel
theorem dX5_init_89 : decode cX5_init 89 = .ok (.putfield 40, 3) := by decide +kernel
theorem dX5_init_92 : decode cX5_init 92 = .ok (.aload_n 0, 1) := by decide +kernel
theorem dX5_init_93 : decode cX5_init 93 = .ok (.iconst 1, 1) := by decide +kernel
theorem dX5_init_94 : decode cX5_init 94 = .ok (.putfield 44, 3) := by decide +kernel
theorem dX5_init_97 : decode cX5_init 97 = .ok (.aload_n 0, 1) := by decide +kernel
theorem dX5_init_98 : decode cX5_init 98 = .ok (.iconst (-1), 1) := by decide +kernel
theorem dX5_init_99 : decode cX5_init 99 = .ok (.putfield 48, 3) := by decide +kernel
theorem dX5_init_102 : decode cX5_init 102 = .ok (.aload_n 0, 1) := by decide +kernel
theorem dX5_init_103 : decode cX5_init 103 = .ok (.sipush 432, 3) := by decide +kernel
theorem dX5_init_106 : decode cX5_init 106 = .ok (.newarray .long, 2) := by decide +kernel
theorem dX5_init_108 : decode cX5_init 108 = .ok (.putfield 52, 3) := by decide +kernel
theorem dX5_init_111 : decode cX5_init 111 = .ok (.aload_n 0, 1) := by decide +kernel
theorem dX5_init_112 : decode cX5_init 112 = .ok (.iload_n 2, 1) := by decide +kernel
theorem dX5_init_113 : decode cX5_init 113 = .ok (.iconst 2, 1) := by decide +kernel
theorem dX5_init_114 : decode cX5_init 114 = .ok (.if_icmp .lt 9, 3) := by decide +kernel
theorem dX5_init_117 : decode cX5_init 117 = .ok (.iload_n 2, 1) := by decide +kernel
theorem dX5_init_118 : decode cX5_init 118 = .ok (.bipush 48, 2) := by decide +kernel
theorem dX5_init_120 : decode cX5_init 120 = .ok (.if_icmp .le 8, 3) := by decide +kernel
theorem dX5_init_123 : decode cX5_init 123 = .ok (.bipush 16, 2) := by decide +kernel
theorem dX5_init_125 : decode cX5_init 125 = .ok (.goto 4, 3) := by decide +kernel
theorem dX5_init_128 : decode cX5_init 128 = .ok (.iload_n 2, 1) := by decide +kernel
theorem dX5_init_129 : decode cX5_init 129 = .ok (.putfield 55, 3) := by decide +kernel
theorem dX5_init_132 : decode cX5_init 132 = .ok (.aload_n 0, 1) := by decide +kernel
theorem dX5_init_133 : decode cX5_init 133 = .ok (.iload_n 1, 1) := by decide +kernel
theorem dX5_init_134 : decode cX5_init 134 = .ok (.iconst 3, 1) := by decide +kernel
theorem dX5_init_135 : decode cX5_init 135 = .ok (.if_icmp .lt 9, 3) := by decide +kernel
theorem dX5_init_138 : decode cX5_init 138 = .ok (.iload_n 1, 1) := by decide +kernel
theorem dX5_init_139 : decode cX5_init 139 = .ok (.bipush 7, 2) := by decide +kernel
theorem dX5_init_141 : decode cX5_init 141 = .ok (.if_icmp .le 7, 3) := by decide +kernel
theorem dX5_init_144 : decode cX5_init 144 = .ok (.iconst 4, 1) := by decide +kernel
theorem dX5_init_145 : decode cX5_init 145 = .ok (.goto 4, 3) := by decide +kernel
theorem dX5_init_148 : decode cX5_init 148 = .ok (.iload_n 1, 1) := by decide +kernel
theorem dX5_init_149 : decode cX5_init 149 = .ok (.putfield 58, 3) := by decide +kernel
theorem dX5_init_152 : decode cX5_init 152 = .ok (.aload_n 0, 1) := by decide +kernel
theorem dX5_init_153 : decode cX5_init 153 = .ok (.iconst 1, 1) := by decide +kernel
theorem dX5_init_154 : decode cX5_init 154 = .ok (.putfield 61, 3) := by decide +kernel
theorem dX5_init_157 : decode cX5_init 157 = .ok (.aload_n 0, 1) := by decide +kernel
theorem dX5_init_158 : decode cX5_init 158 = .ok (.aload_n 0, 1) := by decide +kernel
theorem dX5_init_159 : decode cX5_init 159 = .ok (.getfield 58, 3) := by decide +kernel
theorem dX5_init_162 : decode cX5_init 162 = .ok (.putfield 64, 3) := by decide +kernel
theorem dX5_init_165 : decode cX5_init 165 = .ok (.aload_n 0, 1) := by decide +kernel
theorem dX5_init_166 : decode cX5_init 166 = .ok (.aload_n 0, 1) := by decide +kernel
theorem dX5_init_167 : decode cX5_init 167 = .ok (.getfield 58, 3) := by decide +kernel
theorem dX5_init_170 : decode cX5_init 170 = .ok (.putfield 67, 3) := by decide +kernel
theorem dX5_init_173 : decode cX5_init 173 = .ok (.iconst 0, 1) := by decide +kernel
theorem dX5_init_174 : decode cX5_init 174 = .ok (.istore_n 3, 1) := by decide +kernel
theorem dX5_init_175 : decode cX5_init 175 = .ok (.iload_n 3, 1) := by decide +kernel
theorem dX5_init_176 : decode cX5_init 176 = .ok (.aload_n 0, 1) := by decide +kernel
theorem dX5_init_177 : decode cX5_init 177 = .ok (.getfield 58, 3) := by decide +kernel
theorem dX5_init_180 : decode cX5_init 180 = .ok (.if_icmp .ge 24, 3) := by decide +kernel
theorem dX5_init_183 : decode cX5_init 183 = .ok (.aload_n 0, 1) := by decide +kernel
theorem dX5_init_184 : decode cX5_init 184 = .ok (.iload_n 3, 1) := by decide +kernel
theorem dX5_init_185 : decode cX5_init 185 = .ok (.iconst 1, 1) := by decide +kernel
theorem dX5_init_186 : decode cX5_init 186 = .ok (.aload_n 0, 1) := by decide +kernel
theorem dX5_init_187 : decode cX5_init 187 = .ok (.getfield 64, 3) := by decide +kernel
theorem dX5_init_190 : decode cX5_init 190 = .ok (.aload_n 0, 1) := by decide +kernel
theorem dX5_init_191 : decode cX5_init 191 = .ok (.getfield 67, 3) := by decide +kernel
theorem dX5_init_194 : decode cX5_init 194 = .ok (.iconst 0, 1) := by decide +kernel
theorem dX5_init_195 : decode cX5_init 195 = .ok (.invokevirtual 70, 3) := by decide +kernel
theorem dX5_init_198 : decode cX5_init 198 = .ok (.iinc 3 1, 3) := by decide +kernel
theorem dX5_init_201 : decode cX5_init 201 = .ok (.goto (-26), 3) := by decide +kernel
theorem dX5_init_204 : decode cX5_init 204 = .ok (.return_, 1) := by decide +kernel
theorem dX5_tells_0 : decode cX5_tells 0 = .ok (.aload_n 0, 1) := by decide +kernel
theorem dX5_tells_1 : decode cX5_tells 1 = .ok (.getfield 16, 3) := by decide +kernel
theorem dX5_tells_4 : decode cX5_tells 4 = .ok (.iload_n 1, 1) := by decide +kernel
theorem dX5_tells_5 : decode cX5_tells 5 = .ok (.iload_n 2, 1) := by decide +kernel
theorem dX5_tells_6 : decode cX5_tells 6 = .ok (.iastore, 1) := by decide +kernel
theorem dX5_tells_7 : decode cX5_tells 7 = .ok (.aload_n 0, 1) := by decide +kernel
theorem dX5_tells_8 : decode cX5_tells 8 = .ok (.getfield 19, 3) := by decide +kernel
theorem dX5_tells_11 : decode cX5_tells 11 = .ok (.iload_n 1, 1) := by decide +kernel
theorem dX5_tells_12 : decode cX5_tells 12 = .ok (.iload_n 3, 1) := by decide +kernel
theorem dX5_tells_13 : decode cX5_tells 13 = .ok (.iastore, 1) := by decide +kernel
theorem dX5_tells_14 : decode cX5_tells 14 = .ok (.aload_n 0, 1) := by decide +kernel
theorem dX5_tells_15 : decode cX5_tells 15 = .ok (.getfield 22, 3) := by decide +kernel
theorem dX5_tells_18 : decode cX5_tells 18 = .ok (.iload_n 1, 1) := by decide +kernel
theorem dX5_tells_19 : decode cX5_tells 19 = .ok (.iload 4, 2) := by decide +kernel
theorem dX5_tells_21 : decode cX5_tells 21 = .ok (.iastore, 1) := by decide +kernel
theorem dX5_tells_22 : decode cX5_tells 22 = .ok (.aload_n 0, 1) := by decide +kernel
theorem dX5_tells_23 : decode cX5_tells 23 = .ok (.getfield 25, 3) := by decide +kernel
theorem dX5_tells_26 : decode cX5_tells 26 = .ok (.iload_n 1, 1) := by decide +kernel
theorem dX5_tells_27 : decode cX5_tells 27 = .ok (.iload 5, 2) := by decide +kernel
theorem dX5_tells_29 : decode cX5_tells 29 = .ok (.iastore, 1) := by decide +kernel
theorem dX5_tells_30 : decode cX5_tells 30 = .ok (.return_, 1) := by decide +kernel
theorem dX5_lasts_0 : decode cX5_lasts 0 = .ok (.aload_n 0, 1) := by decide +kernel
theorem dX5_lasts_1 : decode cX5_lasts 1 = .ok (.getfield 48, 3) := by decide +kernel
theorem dX5_lasts_4 : decode cX5_lasts 4 = .ok (.ifCond .eq 26, 3) := by decide +kernel
theorem dX5_lasts_7 : decode cX5_lasts 7 = .ok (.aload_n 0, 1) := by decide +kernel
theorem dX5_lasts_8 : decode cX5_lasts 8 = .ok (.dup, 1) := by decide +kernel
theorem dX5_lasts_9 : decode cX5_lasts 9 = .ok (.getfield 48, 3) := by decide +kernel
theorem dX5_lasts_12 : decode cX5_lasts 12 = .ok (.aload_n 0, 1) := by decide +kernel
theorem dX5_lasts_13 : decode cX5_lasts 13 = .ok (.getfield 48, 3) := by decide +kernel
theorem dX5_lasts_16 : decode cX5_lasts 16 = .ok (.ifCond .le 7, 3) := by decide +kernel
theorem dX5_lasts_19 : decode cX5_lasts 19 = .ok (.iconst 1, 1) := by decide +kernel
theorem dX5_lasts_20 : decode cX5_lasts 20 = .ok (.goto 4, 3) := by decide +kernel
theorem dX5_lasts_23 : decode cX5_lasts 23 = .ok (.iconst 0, 1) := by decide +kernel
theorem dX5_lasts_24 : decode cX5_lasts 24 = .ok (.isub, 1) := by decide +kernel
theorem dX5_lasts_25 : decode cX5_lasts 25 = .ok (.putfield 48, 3) := by decide +kernel
theorem dX5_lasts_28 : decode cX5_lasts 28 = .ok (.iconst 1, 1) := by decide +kernel
theorem dX5_lasts_29 : decode cX5_lasts 29 = .ok (.ireturn, 1) := by decide +kernel
theorem dX5_lasts_30 : decode cX5_lasts 30 = .ok (.aload_n 0, 1) := by decide +kernel
theorem dX5_lasts_31 : decode cX5_lasts 31 = .ok (.iconst (-1), 1) := by decide +kernel
theorem dX5_lasts_32 : decode cX5_lasts 32 = .ok (.putfield 48, 3) := by decide +kernel
theorem dX5_lasts_35 : decode cX5_lasts 35 = .ok (.aload_n 0, 1) := by decide +kernel
theorem dX5_lasts_36 : decode cX5_lasts 36 = .ok (.iconst 0, 1) := by decide +kernel
theorem dX5_lasts_37 : decode cX5_lasts 37 = .ok (.putfield 44, 3) := by decide +kernel
theorem dX5_lasts_40 : decode cX5_lasts 40 = .ok (.aload_n 0, 1) := by decide +kernel
theorem dX5_lasts_41 : decode cX5_lasts 41 = .ok (.dup, 1) := by decide +kernel
theorem dX5_lasts_42 : decode cX5_lasts 42 = .ok (.getfield 77, 3) := by decide +kernel
theorem dX5_lasts_45 : decode cX5_lasts 45 = .ok (.iconst 1, 1) := by decide +kernel
theorem dX5_lasts_46 : decode cX5_lasts 46 = .ok (.iadd, 1) := by decide +kernel
theorem dX5_lasts_47 : decode cX5_lasts 47 = .ok (.putfield 77, 3) := by decide +kernel
theorem dX5_lasts_50 : decode cX5_lasts 50 = .ok (.aload_n 0, 1) := by decide +kernel
theorem dX5_lasts_51 : decode cX5_lasts 51 = .ok (.iconst 0, 1) := by decide +kernel
theorem dX5_lasts_52 : decode cX5_lasts 52 = .ok (.putfield 80, 3) := by decide +kernel
theorem dX5_lasts_55 : decode cX5_lasts 55 = .ok (.iconst 0, 1) := by decide +kernel
theorem dX5_lasts_56 : decode cX5_lasts 56 = .ok (.istore_n 1, 1) := by decide +kernel
theorem dX5_lasts_57 : decode cX5_lasts 57 = .ok (.iload_n 1, 1) := by decide +kernel
theorem dX5_lasts_58 : decode cX5_lasts 58 = .ok (.aload_n 0, 1) := by decide +kernel
theorem dX5_lasts_59 : decode cX5_lasts 59 = .ok (.getfield 58, 3) := by decide +kernel
theorem dX5_lasts_62 : decode cX5_lasts 62 = .ok (.if_icmp .ge 39, 3) := by decide +kernel
theorem dX5_lasts_65 : decode cX5_lasts 65 = .ok (.aload_n 0, 1) := by decide +kernel
theorem dX5_lasts_66 : decode cX5_lasts 66 = .ok (.getfield 9, 3) := by decide +kernel
theorem dX5_lasts_69 : decode cX5_lasts 69 = .ok (.iload_n 1, 1) := by decide +kernel
theorem dX5_lasts_70 : decode cX5_lasts 70 = .ok (.iaload, 1) := by decide +kernel
theorem dX5_lasts_71 : decode cX5_lasts 71 = .ok (.iconst 1, 1) := by decide +kernel
theorem dX5_lasts_72 : decode cX5_lasts 72 = .ok (.if_icmp .eq 23, 3) := by decide +kernel
theorem dX5_lasts_75 : decode cX5_lasts 75 = .ok (.aload_n 0, 1) := by decide +kernel
theorem dX5_lasts_76 : decode cX5_lasts 76 = .ok (.getfield 9, 3) := by decide +kernel
theorem dX5_lasts_79 : decode cX5_lasts 79 = .ok (.iload_n 1, 1) := by decide +kernel
theorem dX5_lasts_80 : decode cX5_lasts 80 = .ok (.aload_n 0, 1) := by decide +kernel
theorem dX5_lasts_81 : decode cX5_lasts 81 = .ok (.getfield 16, 3) := by decide +kernel
theorem dX5_lasts_84 : decode cX5_lasts 84 = .ok (.iload_n 1, 1) := by decide +kernel
theorem dX5_lasts_85 : decode cX5_lasts 85 = .ok (.iaload, 1) := by decide +kernel
theorem dX5_lasts_86 : decode cX5_lasts 86 = .ok (.ifCond .le 7, 3) := by decide +kernel
theorem dX5_lasts_89 : decode cX5_lasts 89 = .ok (.iconst 0, 1) := by decide +kernel
theorem dX5_lasts_90 : decode cX5_lasts 90 = .ok (.goto 4, 3) := by decide +kernel
theorem dX5_lasts_93 : decode cX5_lasts 93 = .ok (.iconst 2, 1) := by decide +kernel
theorem dX5_lasts_94 : decode cX5_lasts 94 = .ok (.iastore, 1) := by decide +kernel
theorem dX5_lasts_95 : decode cX5_lasts 95 = .ok (.iinc 1 1, 3) := by decide +kernel
theorem dX5_lasts_98 : decode cX5_lasts 98 = .ok (.goto (-41), 3) := by decide +kernel
theorem dX5_lasts_101 : decode cX5_lasts 101 = .ok (.iconst 0, 1) := by decide +kernel
theorem dX5_lasts_102 : decode cX5_lasts 102 = .ok (.ireturn, 1) := by decide +kernel
theorem dX5_pokes_0 : decode cX5_pokes 0 = .ok (.aload_n 0, 1) := by decide +kernel
theorem dX5_pokes_1 : decode cX5_pokes 1 = .ok (.invokevirtual 83, 3) := by decide +kernel
theorem dX5_pokes_4 : decode cX5_pokes 4 = .ok (.ifCond .ne 5, 3) := by decide +kernel
theorem dX5_pokes_7 : decode cX5_pokes 7 = .ok (.iconst 0, 1) := by decide +kernel
theorem dX5_pokes_8 : decode cX5_pokes 8 = .ok (.ireturn, 1) := by decide +kernel
theorem dX5_pokes_9 : decode cX5_pokes 9 = .ok (.aload_n 0, 1) := by decide +kernel
theorem dX5_pokes_10 : decode cX5_pokes 10 = .ok (.getfield 13, 3) := by decide +kernel
theorem dX5_pokes_13 : decode cX5_pokes 13 = .ok (.iload_n 1, 1) := by decide +kernel
theorem dX5_pokes_14 : decode cX5_pokes 14 = .ok (.dup2, 1) := by decide +kernel
theorem dX5_pokes_15 : decode cX5_pokes 15 = .ok (.iaload, 1) := by decide +kernel
theorem dX5_pokes_16 : decode cX5_pokes 16 = .ok (.iconst 1, 1) := by decide +kernel
theorem dX5_pokes_17 : decode cX5_pokes 17 = .ok (.iadd, 1) := by decide +kernel
theorem dX5_pokes_18 : decode cX5_pokes 18 = .ok (.iastore, 1) := by decide +kernel
theorem dX5_pokes_19 : decode cX5_pokes 19 = .ok (.aload_n 0, 1) := by decide +kernel
theorem dX5_pokes_20 : decode cX5_pokes 20 = .ok (.dup, 1) := by decide +kernel
theorem dX5_pokes_21 : decode cX5_pokes 21 = .ok (.getfield 87, 3) := by decide +kernel
theorem dX5_pokes_24 : decode cX5_pokes 24 = .ok (.iconst 1, 1) := by decide +kernel
theorem dX5_pokes_25 : decode cX5_pokes 25 = .ok (.iadd, 1) := by decide +kernel
theorem dX5_pokes_26 : decode cX5_pokes 26 = .ok (.putfield 87, 3) := by decide +kernel
theorem dX5_pokes_29 : decode cX5_pokes 29 = .ok (.iconst 1, 1) := by decide +kernel
theorem dX5_pokes_30 : decode cX5_pokes 30 = .ok (.ireturn, 1) := by decide +kernel
theorem dX5_block_0 : decode cX5_block 0 = .ok (.aload_n 0, 1) := by decide +kernel
theorem dX5_block_1 : decode cX5_block 1 = .ok (.getfield 9, 3) := by decide +kernel
theorem dX5_block_4 : decode cX5_block 4 = .ok (.iload_n 1, 1) := by decide +kernel
theorem dX5_block_5 : decode cX5_block 5 = .ok (.iaload, 1) := by decide +kernel
theorem dX5_block_6 : decode cX5_block 6 = .ok (.ifCond .eq 21, 3) := by decide +kernel
theorem dX5_block_9 : decode cX5_block 9 = .ok (.aload_n 0, 1) := by decide +kernel
theorem dX5_block_10 : decode cX5_block 10 = .ok (.getfield 9, 3) := by decide +kernel
theorem dX5_block_13 : decode cX5_block 13 = .ok (.iload_n 1, 1) := by decide +kernel
theorem dX5_block_14 : decode cX5_block 14 = .ok (.iaload, 1) := by decide +kernel
theorem dX5_block_15 : decode cX5_block 15 = .ok (.iconst 2, 1) := by decide +kernel
theorem dX5_block_16 : decode cX5_block 16 = .ok (.if_icmp .ne 15, 3) := by decide +kernel
theorem dX5_block_19 : decode cX5_block 19 = .ok (.iload_n 2, 1) := by decide +kernel
theorem dX5_block_20 : decode cX5_block 20 = .ok (.aload_n 0, 1) := by decide +kernel
theorem dX5_block_21 : decode cX5_block 21 = .ok (.getfield 80, 3) := by decide +kernel
theorem dX5_block_24 : decode cX5_block 24 = .ok (.if_icmp .ge 7, 3) := by decide +kernel
theorem dX5_block_27 : decode cX5_block 27 = .ok (.iconst 1, 1) := by decide +kernel
theorem dX5_block_28 : decode cX5_block 28 = .ok (.goto 4, 3) := by decide +kernel
theorem dX5_block_31 : decode cX5_block 31 = .ok (.iconst 0, 1) := by decide +kernel
theorem dX5_block_32 : decode cX5_block 32 = .ok (.istore_n 3, 1) := by decide +kernel
theorem dX5_block_33 : decode cX5_block 33 = .ok (.iload_n 3, 1) := by decide +kernel
theorem dX5_block_34 : decode cX5_block 34 = .ok (.ifCond .eq 11, 3) := by decide +kernel
theorem dX5_block_37 : decode cX5_block 37 = .ok (.aload_n 0, 1) := by decide +kernel
theorem dX5_block_38 : decode cX5_block 38 = .ok (.iload_n 1, 1) := by decide +kernel
theorem dX5_block_39 : decode cX5_block 39 = .ok (.invokevirtual 90, 3) := by decide +kernel
theorem dX5_block_42 : decode cX5_block 42 = .ok (.ifCond .eq 7, 3) := by decide +kernel
theorem dX5_block_45 : decode cX5_block 45 = .ok (.iconst 1, 1) := by decide +kernel
theorem dX5_block_46 : decode cX5_block 46 = .ok (.goto 4, 3) := by decide +kernel
theorem dX5_block_49 : decode cX5_block 49 = .ok (.iconst 0, 1) := by decide +kernel
theorem dX5_block_50 : decode cX5_block 50 = .ok (.ireturn, 1) := by decide +kernel
theorem dX5_sets_0 : decode cX5_sets 0 = .ok (.iconst 0, 1) := by decide +kernel
theorem dX5_sets_1 : decode cX5_sets 1 = .ok (.istore 5, 2) := by decide +kernel
theorem dX5_sets_3 : decode cX5_sets 3 = .ok (.iload 5, 2) := by decide +kernel
theorem dX5_sets_5 : decode cX5_sets 5 = .ok (.aload_n 0, 1) := by decide +kernel
theorem dX5_sets_6 : decode cX5_sets 6 = .ok (.getfield 58, 3) := by decide +kernel
theorem dX5_sets_9 : decode cX5_sets 9 = .ok (.if_icmp .ge 55, 3) := by decide +kernel
theorem dX5_sets_12 : decode cX5_sets 12 = .ok (.aload_n 0, 1) := by decide +kernel
theorem dX5_sets_13 : decode cX5_sets 13 = .ok (.getfield 9, 3) := by decide +kernel
theorem dX5_sets_16 : decode cX5_sets 16 = .ok (.iload 5, 2) := by decide +kernel
theorem dX5_sets_18 : decode cX5_sets 18 = .ok (.iaload, 1) := by decide +kernel
theorem dX5_sets_19 : decode cX5_sets 19 = .ok (.ifCond .eq 13, 3) := by decide +kernel
theorem dX5_sets_22 : decode cX5_sets 22 = .ok (.iload 5, 2) := by decide +kernel
theorem dX5_sets_24 : decode cX5_sets 24 = .ok (.iload 4, 2) := by decide +kernel
theorem dX5_sets_26 : decode cX5_sets 26 = .ok (.if_icmp .eq 6, 3) := by decide +kernel
theorem dX5_sets_29 : decode cX5_sets 29 = .ok (.goto 29, 3) := by decide +kernel
theorem dX5_sets_32 : decode cX5_sets 32 = .ok (.aload_n 0, 1) := by decide +kernel
theorem dX5_sets_33 : decode cX5_sets 33 = .ok (.iload 5, 2) := by decide +kernel
theorem dX5_sets_35 : decode cX5_sets 35 = .ok (.invokevirtual 90, 3) := by decide +kernel
theorem dX5_sets_38 : decode cX5_sets 38 = .ok (.ifCond .ne 5, 3) := by decide +kernel
theorem dX5_sets_41 : decode cX5_sets 41 = .ok (.iconst 0, 1) := by decide +kernel
theorem dX5_sets_42 : decode cX5_sets 42 = .ok (.ireturn, 1) := by decide +kernel
theorem dX5_sets_43 : decode cX5_sets 43 = .ok (.aload_n 0, 1) := by decide +kernel
theorem dX5_sets_44 : decode cX5_sets 44 = .ok (.iload 5, 2) := by decide +kernel
theorem dX5_sets_46 : decode cX5_sets 46 = .ok (.aload_n 0, 1) := by decide +kernel
theorem dX5_sets_47 : decode cX5_sets 47 = .ok (.getfield 61, 3) := by decide +kernel
theorem dX5_sets_50 : decode cX5_sets 50 = .ok (.iconst 1, 1) := by decide +kernel
theorem dX5_sets_51 : decode cX5_sets 51 = .ok (.iadd, 1) := by decide +kernel
theorem dX5_sets_52 : decode cX5_sets 52 = .ok (.iload_n 1, 1) := by decide +kernel
theorem dX5_sets_53 : decode cX5_sets 53 = .ok (.iload_n 2, 1) := by decide +kernel
theorem dX5_sets_54 : decode cX5_sets 54 = .ok (.iload_n 3, 1) := by decide +kernel
theorem dX5_sets_55 : decode cX5_sets 55 = .ok (.invokevirtual 70, 3) := by decide +kernel
theorem dX5_sets_58 : decode cX5_sets 58 = .ok (.iinc 5 1, 3) := by decide +kernel
theorem dX5_sets_61 : decode cX5_sets 61 = .ok (.goto (-58), 3) := by decide +kernel
theorem dX5_sets_64 : decode cX5_sets 64 = .ok (.aload_n 0, 1) := by decide +kernel
theorem dX5_sets_65 : decode cX5_sets 65 = .ok (.dup, 1) := by decide +kernel
theorem dX5_sets_66 : decode cX5_sets 66 = .ok (.getfield 61, 3) := by decide +kernel
theorem dX5_sets_69 : decode cX5_sets 69 = .ok (.iconst 1, 1) := by decide +kernel
theorem dX5_sets_70 : decode cX5_sets 70 = .ok (.iadd, 1) := by decide +kernel
theorem dX5_sets_71 : decode cX5_sets 71 = .ok (.putfield 61, 3) := by decide +kernel
theorem dX5_sets_74 : decode cX5_sets 74 = .ok (.aload_n 0, 1) := by decide +kernel
theorem dX5_sets_75 : decode cX5_sets 75 = .ok (.iload_n 1, 1) := by decide +kernel
theorem dX5_sets_76 : decode cX5_sets 76 = .ok (.putfield 64, 3) := by decide +kernel
theorem dX5_sets_79 : decode cX5_sets 79 = .ok (.aload_n 0, 1) := by decide +kernel
theorem dX5_sets_80 : decode cX5_sets 80 = .ok (.iload_n 2, 1) := by decide +kernel
theorem dX5_sets_81 : decode cX5_sets 81 = .ok (.putfield 67, 3) := by decide +kernel
theorem dX5_sets_84 : decode cX5_sets 84 = .ok (.aload_n 0, 1) := by decide +kernel
theorem dX5_sets_85 : decode cX5_sets 85 = .ok (.iload_n 3, 1) := by decide +kernel
theorem dX5_sets_86 : decode cX5_sets 86 = .ok (.putfield 94, 3) := by decide +kernel
theorem dX5_sets_89 : decode cX5_sets 89 = .ok (.iconst 1, 1) := by decide +kernel
theorem dX5_sets_90 : decode cX5_sets 90 = .ok (.ireturn, 1) := by decide +kernel
theorem dX5_isReshaped_0 : decode cX5_isReshaped 0 = .ok (.aload_n 0, 1) := by decide +kernel
theorem dX5_isReshaped_1 : decode cX5_isReshaped 1 = .ok (.getfield 67, 3) := by decide +kernel
theorem dX5_isReshaped_4 : decode cX5_isReshaped 4 = .ok (.aload_n 0, 1) := by decide +kernel
theorem dX5_isReshaped_5 : decode cX5_isReshaped 5 = .ok (.getfield 64, 3) := by decide +kernel
theorem dX5_isReshaped_8 : decode cX5_isReshaped 8 = .ok (.if_icmp .eq 7, 3) := by decide +kernel
theorem dX5_isReshaped_11 : decode cX5_isReshaped 11 = .ok (.iconst 1, 1) := by decide +kernel
theorem dX5_isReshaped_12 : decode cX5_isReshaped 12 = .ok (.goto 4, 3) := by decide +kernel
theorem dX5_isReshaped_15 : decode cX5_isReshaped 15 = .ok (.iconst 0, 1) := by decide +kernel
theorem dX5_isReshaped_16 : decode cX5_isReshaped 16 = .ok (.ireturn, 1) := by decide +kernel
theorem dX5_isRebuilding_0 : decode cX5_isRebuilding 0 = .ok (.iconst 0, 1) := by decide +kernel
theorem dX5_isRebuilding_1 : decode cX5_isRebuilding 1 = .ok (.istore_n 1, 1) := by decide +kernel
theorem dX5_isRebuilding_2 : decode cX5_isRebuilding 2 = .ok (.iconst 0, 1) := by decide +kernel
theorem dX5_isRebuilding_3 : decode cX5_isRebuilding 3 = .ok (.istore_n 2, 1) := by decide +kernel
theorem dX5_isRebuilding_4 : decode cX5_isRebuilding 4 = .ok (.iload_n 2, 1) := by decide +kernel
theorem dX5_isRebuilding_5 : decode cX5_isRebuilding 5 = .ok (.aload_n 0, 1) := by decide +kernel
theorem dX5_isRebuilding_6 : decode cX5_isRebuilding 6 = .ok (.getfield 58, 3) := by decide +kernel
theorem dX5_isRebuilding_9 : decode cX5_isRebuilding 9 = .ok (.if_icmp .ge 29, 3) := by decide +kernel
theorem dX5_isRebuilding_12 : decode cX5_isRebuilding 12 = .ok (.iload_n 1, 1) := by decide +kernel
theorem dX5_isRebuilding_13 : decode cX5_isRebuilding 13 = .ok (.ifCond .ne 13, 3) := by decide +kernel
theorem dX5_isRebuilding_16 : decode cX5_isRebuilding 16 = .ok (.aload_n 0, 1) := by decide +kernel
theorem dX5_isRebuilding_17 : decode cX5_isRebuilding 17 = .ok (.getfield 9, 3) := by decide +kernel
theorem dX5_isRebuilding_20 : decode cX5_isRebuilding 20 = .ok (.iload_n 2, 1) := by decide +kernel
theorem dX5_isRebuilding_21 : decode cX5_isRebuilding 21 = .ok (.iaload, 1) := by decide +kernel
theorem dX5_isRebuilding_22 : decode cX5_isRebuilding 22 = .ok (.iconst 2, 1) := by decide +kernel
theorem dX5_isRebuilding_23 : decode cX5_isRebuilding 23 = .ok (.if_icmp .ne 7, 3) := by decide +kernel
theorem dX5_isRebuilding_26 : decode cX5_isRebuilding 26 = .ok (.iconst 1, 1) := by decide +kernel
theorem dX5_isRebuilding_27 : decode cX5_isRebuilding 27 = .ok (.goto 4, 3) := by decide +kernel
theorem dX5_isRebuilding_30 : decode cX5_isRebuilding 30 = .ok (.iconst 0, 1) := by decide +kernel
theorem dX5_isRebuilding_31 : decode cX5_isRebuilding 31 = .ok (.istore_n 1, 1) := by decide +kernel
theorem dX5_isRebuilding_32 : decode cX5_isRebuilding 32 = .ok (.iinc 2 1, 3) := by decide +kernel
theorem dX5_isRebuilding_35 : decode cX5_isRebuilding 35 = .ok (.goto (-31), 3) := by decide +kernel
theorem dX5_isRebuilding_38 : decode cX5_isRebuilding 38 = .ok (.iload_n 1, 1) := by decide +kernel
theorem dX5_isRebuilding_39 : decode cX5_isRebuilding 39 = .ok (.ireturn, 1) := by decide +kernel
theorem dX5_notLive_0 : decode cX5_notLive 0 = .ok (.iconst (-1), 1) := by decide +kernel
theorem dX5_notLive_1 : decode cX5_notLive 1 = .ok (.istore_n 1, 1) := by decide +kernel
theorem dX5_notLive_2 : decode cX5_notLive 2 = .ok (.iconst 0, 1) := by decide +kernel
theorem dX5_notLive_3 : decode cX5_notLive 3 = .ok (.istore_n 2, 1) := by decide +kernel
theorem dX5_notLive_4 : decode cX5_notLive 4 = .ok (.iload_n 2, 1) := by decide +kernel
theorem dX5_notLive_5 : decode cX5_notLive 5 = .ok (.aload_n 0, 1) := by decide +kernel
theorem dX5_notLive_6 : decode cX5_notLive 6 = .ok (.getfield 58, 3) := by decide +kernel
theorem dX5_notLive_9 : decode cX5_notLive 9 = .ok (.if_icmp .ge 24, 3) := by decide +kernel
theorem dX5_notLive_12 : decode cX5_notLive 12 = .ok (.aload_n 0, 1) := by decide +kernel
theorem dX5_notLive_13 : decode cX5_notLive 13 = .ok (.getfield 9, 3) := by decide +kernel
theorem dX5_notLive_16 : decode cX5_notLive 16 = .ok (.iload_n 2, 1) := by decide +kernel
theorem dX5_notLive_17 : decode cX5_notLive 17 = .ok (.iaload, 1) := by decide +kernel
theorem dX5_notLive_18 : decode cX5_notLive 18 = .ok (.ifCond .ne 7, 3) := by decide +kernel
theorem dX5_notLive_21 : decode cX5_notLive 21 = .ok (.iload_n 1, 1) := by decide +kernel
theorem dX5_notLive_22 : decode cX5_notLive 22 = .ok (.goto 4, 3) := by decide +kernel
theorem dX5_notLive_25 : decode cX5_notLive 25 = .ok (.iload_n 2, 1) := by decide +kernel
theorem dX5_notLive_26 : decode cX5_notLive 26 = .ok (.istore_n 1, 1) := by decide +kernel
theorem dX5_notLive_27 : decode cX5_notLive 27 = .ok (.iinc 2 1, 3) := by decide +kernel
theorem dX5_notLive_30 : decode cX5_notLive 30 = .ok (.goto (-26), 3) := by decide +kernel
theorem dX5_notLive_33 : decode cX5_notLive 33 = .ok (.iload_n 1, 1) := by decide +kernel
theorem dX5_notLive_34 : decode cX5_notLive 34 = .ok (.ireturn, 1) := by decide +kernel
theorem dX5_places_0 : decode cX5_places 0 = .ok (.aload_n 0, 1) := by decide +kernel
theorem dX5_places_1 : decode cX5_places 1 = .ok (.getfield 55, 3) := by decide +kernel
theorem dX5_places_4 : decode cX5_places 4 = .ok (.aload_n 0, 1) := by decide +kernel
theorem dX5_places_5 : decode cX5_places 5 = .ok (.getfield 64, 3) := by decide +kernel
theorem dX5_places_8 : decode cX5_places 8 = .ok (.iconst 1, 1) := by decide +kernel
theorem dX5_places_9 : decode cX5_places 9 = .ok (.isub, 1) := by decide +kernel
theorem dX5_places_10 : decode cX5_places 10 = .ok (.imul, 1) := by decide +kernel
theorem dX5_places_11 : decode cX5_places 11 = .ok (.ireturn, 1) := by decide +kernel
theorem dX5_isByM_0 : decode cX5_isByM 0 = .ok (.aload_n 0, 1) := by decide +kernel
theorem dX5_isByM_1 : decode cX5_isByM 1 = .ok (.invokevirtual 97, 3) := by decide +kernel
theorem dX5_isByM_4 : decode cX5_isByM 4 = .ok (.ifCond .eq 22, 3) := by decide +kernel
theorem dX5_isByM_7 : decode cX5_isByM 7 = .ok (.iload_n 1, 1) := by decide +kernel
theorem dX5_isByM_8 : decode cX5_isByM 8 = .ok (.aload_n 0, 1) := by decide +kernel
theorem dX5_isByM_9 : decode cX5_isByM 9 = .ok (.getfield 94, 3) := by decide +kernel
theorem dX5_isByM_12 : decode cX5_isByM 12 = .ok (.aload_n 0, 1) := by decide +kernel
theorem dX5_isByM_13 : decode cX5_isByM 13 = .ok (.getfield 67, 3) := by decide +kernel
theorem dX5_isByM_16 : decode cX5_isByM 16 = .ok (.iconst 1, 1) := by decide +kernel
theorem dX5_isByM_17 : decode cX5_isByM 17 = .ok (.isub, 1) := by decide +kernel
theorem dX5_isByM_18 : decode cX5_isByM 18 = .ok (.imul, 1) := by decide +kernel
theorem dX5_isByM_19 : decode cX5_isByM 19 = .ok (.if_icmp .ge 7, 3) := by decide +kernel
theorem dX5_isByM_22 : decode cX5_isByM 22 = .ok (.iconst 1, 1) := by decide +kernel
theorem dX5_isByM_23 : decode cX5_isByM 23 = .ok (.goto 4, 3) := by decide +kernel
theorem dX5_isByM_26 : decode cX5_isByM 26 = .ok (.iconst 0, 1) := by decide +kernel
theorem dX5_isByM_27 : decode cX5_isByM 27 = .ok (.ireturn, 1) := by decide +kernel
theorem dX5_width_0 : decode cX5_width 0 = .ok (.aload_n 0, 1) := by decide +kernel
theorem dX5_width_1 : decode cX5_width 1 = .ok (.iload_n 1, 1) := by decide +kernel
theorem dX5_width_2 : decode cX5_width 2 = .ok (.invokevirtual 100, 3) := by decide +kernel
theorem dX5_width_5 : decode cX5_width 5 = .ok (.ifCond .eq 10, 3) := by decide +kernel
theorem dX5_width_8 : decode cX5_width 8 = .ok (.aload_n 0, 1) := by decide +kernel
theorem dX5_width_9 : decode cX5_width 9 = .ok (.getfield 67, 3) := by decide +kernel
theorem dX5_width_12 : decode cX5_width 12 = .ok (.goto 7, 3) := by decide +kernel
theorem dX5_width_15 : decode cX5_width 15 = .ok (.aload_n 0, 1) := by decide +kernel
theorem dX5_width_16 : decode cX5_width 16 = .ok (.getfield 64, 3) := by decide +kernel
theorem dX5_width_19 : decode cX5_width 19 = .ok (.ireturn, 1) := by decide +kernel
theorem dX5_rowOf_0 : decode cX5_rowOf 0 = .ok (.iload_n 1, 1) := by decide +kernel
theorem dX5_rowOf_1 : decode cX5_rowOf 1 = .ok (.aload_n 0, 1) := by decide +kernel
theorem dX5_rowOf_2 : decode cX5_rowOf 2 = .ok (.iload_n 1, 1) := by decide +kernel
theorem dX5_rowOf_3 : decode cX5_rowOf 3 = .ok (.invokevirtual 103, 3) := by decide +kernel
theorem dX5_rowOf_6 : decode cX5_rowOf 6 = .ok (.iconst 1, 1) := by decide +kernel
theorem dX5_rowOf_7 : decode cX5_rowOf 7 = .ok (.isub, 1) := by decide +kernel
theorem dX5_rowOf_8 : decode cX5_rowOf 8 = .ok (.idiv, 1) := by decide +kernel
theorem dX5_rowOf_9 : decode cX5_rowOf 9 = .ok (.ireturn, 1) := by decide +kernel
theorem dX5_parityOf_0 : decode cX5_parityOf 0 = .ok (.aload_n 0, 1) := by decide +kernel
theorem dX5_parityOf_1 : decode cX5_parityOf 1 = .ok (.iload_n 1, 1) := by decide +kernel
theorem dX5_parityOf_2 : decode cX5_parityOf 2 = .ok (.invokevirtual 103, 3) := by decide +kernel
theorem dX5_parityOf_5 : decode cX5_parityOf 5 = .ok (.iconst 1, 1) := by decide +kernel
theorem dX5_parityOf_6 : decode cX5_parityOf 6 = .ok (.isub, 1) := by decide +kernel
theorem dX5_parityOf_7 : decode cX5_parityOf 7 = .ok (.aload_n 0, 1) := by decide +kernel
theorem dX5_parityOf_8 : decode cX5_parityOf 8 = .ok (.iload_n 1, 1) := by decide +kernel
theorem dX5_parityOf_9 : decode cX5_parityOf 9 = .ok (.invokevirtual 107, 3) := by decide +kernel
theorem dX5_parityOf_12 : decode cX5_parityOf 12 = .ok (.aload_n 0, 1) := by decide +kernel
theorem dX5_parityOf_13 : decode cX5_parityOf 13 = .ok (.iload_n 1, 1) := by decide +kernel
theorem dX5_parityOf_14 : decode cX5_parityOf 14 = .ok (.invokevirtual 103, 3) := by decide +kernel
theorem dX5_parityOf_17 : decode cX5_parityOf 17 = .ok (.irem, 1) := by decide +kernel
theorem dX5_parityOf_18 : decode cX5_parityOf 18 = .ok (.isub, 1) := by decide +kernel
theorem dX5_parityOf_19 : decode cX5_parityOf 19 = .ok (.ireturn, 1) := by decide +kernel
theorem dX5_diskOf_0 : decode cX5_diskOf 0 = .ok (.aload_n 0, 1) := by decide +kernel
theorem dX5_diskOf_1 : decode cX5_diskOf 1 = .ok (.iload_n 1, 1) := by decide +kernel
theorem dX5_diskOf_2 : decode cX5_diskOf 2 = .ok (.invokevirtual 110, 3) := by decide +kernel
theorem dX5_diskOf_5 : decode cX5_diskOf 5 = .ok (.iconst 1, 1) := by decide +kernel
theorem dX5_diskOf_6 : decode cX5_diskOf 6 = .ok (.iadd, 1) := by decide +kernel
theorem dX5_diskOf_7 : decode cX5_diskOf 7 = .ok (.iload_n 1, 1) := by decide +kernel
theorem dX5_diskOf_8 : decode cX5_diskOf 8 = .ok (.aload_n 0, 1) := by decide +kernel
theorem dX5_diskOf_9 : decode cX5_diskOf 9 = .ok (.iload_n 1, 1) := by decide +kernel
theorem dX5_diskOf_10 : decode cX5_diskOf 10 = .ok (.invokevirtual 103, 3) := by decide +kernel
theorem dX5_diskOf_13 : decode cX5_diskOf 13 = .ok (.iconst 1, 1) := by decide +kernel
theorem dX5_diskOf_14 : decode cX5_diskOf 14 = .ok (.isub, 1) := by decide +kernel
theorem dX5_diskOf_15 : decode cX5_diskOf 15 = .ok (.irem, 1) := by decide +kernel
theorem dX5_diskOf_16 : decode cX5_diskOf 16 = .ok (.iadd, 1) := by decide +kernel
theorem dX5_diskOf_17 : decode cX5_diskOf 17 = .ok (.aload_n 0, 1) := by decide +kernel
theorem dX5_diskOf_18 : decode cX5_diskOf 18 = .ok (.iload_n 1, 1) := by decide +kernel
theorem dX5_diskOf_19 : decode cX5_diskOf 19 = .ok (.invokevirtual 103, 3) := by decide +kernel
theorem dX5_diskOf_22 : decode cX5_diskOf 22 = .ok (.irem, 1) := by decide +kernel
theorem dX5_diskOf_23 : decode cX5_diskOf 23 = .ok (.ireturn, 1) := by decide +kernel
theorem dX5_journaled_0 : decode cX5_journaled 0 = .ok (.iconst 0, 1) := by decide +kernel
theorem dX5_journaled_1 : decode cX5_journaled 1 = .ok (.istore 5, 2) := by decide +kernel
theorem dX5_journaled_3 : decode cX5_journaled 3 = .ok (.iconst 0, 1) := by decide +kernel
theorem dX5_journaled_4 : decode cX5_journaled 4 = .ok (.istore 6, 2) := by decide +kernel
theorem dX5_journaled_6 : decode cX5_journaled 6 = .ok (.iload 6, 2) := by decide +kernel
theorem dX5_journaled_8 : decode cX5_journaled 8 = .ok (.aload_n 0, 1) := by decide +kernel
theorem dX5_journaled_9 : decode cX5_journaled 9 = .ok (.getfield 58, 3) := by decide +kernel
theorem dX5_journaled_12 : decode cX5_journaled 12 = .ok (.if_icmp .ge 77, 3) := by decide +kernel
theorem dX5_journaled_15 : decode cX5_journaled 15 = .ok (.iload 5, 2) := by decide +kernel
theorem dX5_journaled_17 : decode cX5_journaled 17 = .ok (.iconst 2, 1) := by decide +kernel
theorem dX5_journaled_18 : decode cX5_journaled 18 = .ok (.if_icmp .ge 71, 3) := by decide +kernel
theorem dX5_journaled_21 : decode cX5_journaled 21 = .ok (.aload_n 0, 1) := by decide +kernel
theorem dX5_journaled_22 : decode cX5_journaled 22 = .ok (.getfield 9, 3) := by decide +kernel
theorem dX5_journaled_25 : decode cX5_journaled 25 = .ok (.iload 6, 2) := by decide +kernel
theorem dX5_journaled_27 : decode cX5_journaled 27 = .ok (.iaload, 1) := by decide +kernel
theorem dX5_journaled_28 : decode cX5_journaled 28 = .ok (.ifCond .eq 6, 3) := by decide +kernel
theorem dX5_journaled_31 : decode cX5_journaled 31 = .ok (.goto 52, 3) := by decide +kernel
theorem dX5_journaled_34 : decode cX5_journaled 34 = .ok (.aload_n 0, 1) := by decide +kernel
theorem dX5_journaled_35 : decode cX5_journaled 35 = .ok (.iload 6, 2) := by decide +kernel
theorem dX5_journaled_37 : decode cX5_journaled 37 = .ok (.invokevirtual 90, 3) := by decide +kernel
theorem dX5_journaled_40 : decode cX5_journaled 40 = .ok (.ifCond .ne 5, 3) := by decide +kernel
theorem dX5_journaled_43 : decode cX5_journaled 43 = .ok (.iconst 0, 1) := by decide +kernel
theorem dX5_journaled_44 : decode cX5_journaled 44 = .ok (.ireturn, 1) := by decide +kernel
theorem dX5_journaled_45 : decode cX5_journaled 45 = .ok (.aload_n 0, 1) := by decide +kernel
theorem dX5_journaled_46 : decode cX5_journaled 46 = .ok (.getfield 28, 3) := by decide +kernel
theorem dX5_journaled_49 : decode cX5_journaled 49 = .ok (.iload 6, 2) := by decide +kernel
theorem dX5_journaled_51 : decode cX5_journaled 51 = .ok (.iload_n 1, 1) := by decide +kernel
theorem dX5_journaled_52 : decode cX5_journaled 52 = .ok (.iastore, 1) := by decide +kernel
theorem dX5_journaled_53 : decode cX5_journaled 53 = .ok (.aload_n 0, 1) := by decide +kernel
theorem dX5_journaled_54 : decode cX5_journaled 54 = .ok (.getfield 31, 3) := by decide +kernel
theorem dX5_journaled_57 : decode cX5_journaled 57 = .ok (.iload 6, 2) := by decide +kernel
theorem dX5_journaled_59 : decode cX5_journaled 59 = .ok (.aload_n 0, 1) := by decide +kernel
theorem dX5_journaled_60 : decode cX5_journaled 60 = .ok (.getfield 61, 3) := by decide +kernel
theorem dX5_journaled_63 : decode cX5_journaled 63 = .ok (.iastore, 1) := by decide +kernel
theorem dX5_journaled_64 : decode cX5_journaled 64 = .ok (.aload_n 0, 1) := by decide +kernel
theorem dX5_journaled_65 : decode cX5_journaled 65 = .ok (.getfield 34, 3) := by decide +kernel
theorem dX5_journaled_68 : decode cX5_journaled 68 = .ok (.iload 6, 2) := by decide +kernel
theorem dX5_journaled_70 : decode cX5_journaled 70 = .ok (.iload_n 2, 1) := by decide +kernel
theorem dX5_journaled_71 : decode cX5_journaled 71 = .ok (.iastore, 1) := by decide +kernel
theorem dX5_journaled_72 : decode cX5_journaled 72 = .ok (.aload_n 0, 1) := by decide +kernel
theorem dX5_journaled_73 : decode cX5_journaled 73 = .ok (.getfield 40, 3) := by decide +kernel
theorem dX5_journaled_76 : decode cX5_journaled 76 = .ok (.iload 6, 2) := by decide +kernel
theorem dX5_journaled_78 : decode cX5_journaled 78 = .ok (.lload_n 3, 1) := by decide +kernel
theorem dX5_journaled_79 : decode cX5_journaled 79 = .ok (.lastore, 1) := by decide +kernel
theorem dX5_journaled_80 : decode cX5_journaled 80 = .ok (.iinc 5 1, 3) := by decide +kernel
theorem dX5_journaled_83 : decode cX5_journaled 83 = .ok (.iinc 6 1, 3) := by decide +kernel
theorem dX5_journaled_86 : decode cX5_journaled 86 = .ok (.goto (-80), 3) := by decide +kernel
theorem dX5_journaled_89 : decode cX5_journaled 89 = .ok (.aload_n 0, 1) := by decide +kernel
theorem dX5_journaled_90 : decode cX5_journaled 90 = .ok (.aload_n 0, 1) := by decide +kernel
theorem dX5_journaled_91 : decode cX5_journaled 91 = .ok (.iload_n 2, 1) := by decide +kernel
theorem dX5_journaled_92 : decode cX5_journaled 92 = .ok (.invokevirtual 113, 3) := by decide +kernel
theorem dX5_journaled_95 : decode cX5_journaled 95 = .ok (.aload_n 0, 1) := by decide +kernel
theorem dX5_journaled_96 : decode cX5_journaled 96 = .ok (.iload_n 2, 1) := by decide +kernel
theorem dX5_journaled_97 : decode cX5_journaled 97 = .ok (.invokevirtual 107, 3) := by decide +kernel
theorem dX5_journaled_100 : decode cX5_journaled 100 = .ok (.invokevirtual 116, 3) := by decide +kernel
theorem dX5_journaled_103 : decode cX5_journaled 103 = .ok (.ifCond .eq 20, 3) := by decide +kernel
theorem dX5_journaled_106 : decode cX5_journaled 106 = .ok (.aload_n 0, 1) := by decide +kernel
theorem dX5_journaled_107 : decode cX5_journaled 107 = .ok (.aload_n 0, 1) := by decide +kernel
theorem dX5_journaled_108 : decode cX5_journaled 108 = .ok (.iload_n 2, 1) := by decide +kernel
theorem dX5_journaled_109 : decode cX5_journaled 109 = .ok (.invokevirtual 110, 3) := by decide +kernel
theorem dX5_journaled_112 : decode cX5_journaled 112 = .ok (.aload_n 0, 1) := by decide +kernel
theorem dX5_journaled_113 : decode cX5_journaled 113 = .ok (.iload_n 2, 1) := by decide +kernel
theorem dX5_journaled_114 : decode cX5_journaled 114 = .ok (.invokevirtual 107, 3) := by decide +kernel
theorem dX5_journaled_117 : decode cX5_journaled 117 = .ok (.invokevirtual 116, 3) := by decide +kernel
theorem dX5_journaled_120 : decode cX5_journaled 120 = .ok (.ifCond .ne 5, 3) := by decide +kernel
theorem dX5_journaled_123 : decode cX5_journaled 123 = .ok (.iconst 0, 1) := by decide +kernel
theorem dX5_journaled_124 : decode cX5_journaled 124 = .ok (.ireturn, 1) := by decide +kernel
theorem dX5_journaled_125 : decode cX5_journaled 125 = .ok (.aload_n 0, 1) := by decide +kernel
theorem dX5_journaled_126 : decode cX5_journaled 126 = .ok (.getfield 52, 3) := by decide +kernel
theorem dX5_journaled_129 : decode cX5_journaled 129 = .ok (.iload_n 2, 1) := by decide +kernel
theorem dX5_journaled_130 : decode cX5_journaled 130 = .ok (.lload_n 3, 1) := by decide +kernel
theorem dX5_journaled_131 : decode cX5_journaled 131 = .ok (.lastore, 1) := by decide +kernel
theorem dX5_journaled_132 : decode cX5_journaled 132 = .ok (.iconst 1, 1) := by decide +kernel
theorem dX5_journaled_133 : decode cX5_journaled 133 = .ok (.ireturn, 1) := by decide +kernel
theorem dX5_write_0 : decode cX5_write 0 = .ok (.aload_n 0, 1) := by decide +kernel
theorem dX5_write_1 : decode cX5_write 1 = .ok (.aload_n 0, 1) := by decide +kernel
theorem dX5_write_2 : decode cX5_write 2 = .ok (.getfield 44, 3) := by decide +kernel
theorem dX5_write_5 : decode cX5_write 5 = .ok (.ifCond .ne 7, 3) := by decide +kernel
theorem dX5_write_8 : decode cX5_write 8 = .ok (.iconst 1, 1) := by decide +kernel
theorem dX5_write_9 : decode cX5_write 9 = .ok (.goto 20, 3) := by decide +kernel
theorem dX5_write_12 : decode cX5_write 12 = .ok (.iload_n 1, 1) := by decide +kernel
theorem dX5_write_13 : decode cX5_write 13 = .ok (.ifCond .lt 11, 3) := by decide +kernel
theorem dX5_write_16 : decode cX5_write 16 = .ok (.iload_n 1, 1) := by decide +kernel
theorem dX5_write_17 : decode cX5_write 17 = .ok (.aload_n 0, 1) := by decide +kernel
theorem dX5_write_18 : decode cX5_write 18 = .ok (.invokevirtual 120, 3) := by decide +kernel
theorem dX5_write_21 : decode cX5_write 21 = .ok (.if_icmp .lt 7, 3) := by decide +kernel
theorem dX5_write_24 : decode cX5_write 24 = .ok (.iconst 2, 1) := by decide +kernel
theorem dX5_write_25 : decode cX5_write 25 = .ok (.goto 4, 3) := by decide +kernel
theorem dX5_write_28 : decode cX5_write 28 = .ok (.iconst 0, 1) := by decide +kernel
theorem dX5_write_29 : decode cX5_write 29 = .ok (.putfield 74, 3) := by decide +kernel
theorem dX5_write_32 : decode cX5_write 32 = .ok (.aload_n 0, 1) := by decide +kernel
theorem dX5_write_33 : decode cX5_write 33 = .ok (.getfield 74, 3) := by decide +kernel
theorem dX5_write_36 : decode cX5_write 36 = .ok (.ifCond .le 5, 3) := by decide +kernel
theorem dX5_write_39 : decode cX5_write 39 = .ok (.iconst 0, 1) := by decide +kernel
theorem dX5_write_40 : decode cX5_write 40 = .ok (.ireturn, 1) := by decide +kernel
theorem dX5_write_41 : decode cX5_write 41 = .ok (.aload_n 0, 1) := by decide +kernel
theorem dX5_write_42 : decode cX5_write 42 = .ok (.dup, 1) := by decide +kernel
theorem dX5_write_43 : decode cX5_write 43 = .ok (.getfield 124, 3) := by decide +kernel
theorem dX5_write_46 : decode cX5_write 46 = .ok (.iconst 1, 1) := by decide +kernel
theorem dX5_write_47 : decode cX5_write 47 = .ok (.iadd, 1) := by decide +kernel
theorem dX5_write_48 : decode cX5_write 48 = .ok (.putfield 124, 3) := by decide +kernel
theorem dX5_write_51 : decode cX5_write 51 = .ok (.aload_n 0, 1) := by decide +kernel
theorem dX5_write_52 : decode cX5_write 52 = .ok (.aload_n 0, 1) := by decide +kernel
theorem dX5_write_53 : decode cX5_write 53 = .ok (.getfield 124, 3) := by decide +kernel
theorem dX5_write_56 : decode cX5_write 56 = .ok (.iload_n 1, 1) := by decide +kernel
theorem dX5_write_57 : decode cX5_write 57 = .ok (.lload_n 2, 1) := by decide +kernel
theorem dX5_write_58 : decode cX5_write 58 = .ok (.invokevirtual 127, 3) := by decide +kernel
theorem dX5_write_61 : decode cX5_write 61 = .ok (.ireturn, 1) := by decide +kernel
theorem dX5_read_0 : decode cX5_read 0 = .ok (.aload_n 0, 1) := by decide +kernel
theorem dX5_read_1 : decode cX5_read 1 = .ok (.aload_n 0, 1) := by decide +kernel
theorem dX5_read_2 : decode cX5_read 2 = .ok (.getfield 44, 3) := by decide +kernel
theorem dX5_read_5 : decode cX5_read 5 = .ok (.ifCond .ne 7, 3) := by decide +kernel
theorem dX5_read_8 : decode cX5_read 8 = .ok (.iconst 1, 1) := by decide +kernel
theorem dX5_read_9 : decode cX5_read 9 = .ok (.goto 20, 3) := by decide +kernel
theorem dX5_read_12 : decode cX5_read 12 = .ok (.iload_n 1, 1) := by decide +kernel
theorem dX5_read_13 : decode cX5_read 13 = .ok (.ifCond .lt 11, 3) := by decide +kernel
theorem dX5_read_16 : decode cX5_read 16 = .ok (.iload_n 1, 1) := by decide +kernel
theorem dX5_read_17 : decode cX5_read 17 = .ok (.aload_n 0, 1) := by decide +kernel
theorem dX5_read_18 : decode cX5_read 18 = .ok (.invokevirtual 120, 3) := by decide +kernel
theorem dX5_read_21 : decode cX5_read 21 = .ok (.if_icmp .lt 7, 3) := by decide +kernel
theorem dX5_read_24 : decode cX5_read 24 = .ok (.iconst 2, 1) := by decide +kernel
theorem dX5_read_25 : decode cX5_read 25 = .ok (.goto 4, 3) := by decide +kernel
theorem dX5_read_28 : decode cX5_read 28 = .ok (.iconst 0, 1) := by decide +kernel
theorem dX5_read_29 : decode cX5_read 29 = .ok (.putfield 74, 3) := by decide +kernel
theorem dX5_read_32 : decode cX5_read 32 = .ok (.aload_n 0, 1) := by decide +kernel
theorem dX5_read_33 : decode cX5_read 33 = .ok (.getfield 74, 3) := by decide +kernel
theorem dX5_read_36 : decode cX5_read 36 = .ok (.ifCond .le 7, 3) := by decide +kernel
theorem dX5_read_39 : decode cX5_read 39 = .ok (.lconst 0, 1) := by decide +kernel
theorem dX5_read_40 : decode cX5_read 40 = .ok (.goto 9, 3) := by decide +kernel
theorem dX5_read_43 : decode cX5_read 43 = .ok (.aload_n 0, 1) := by decide +kernel
theorem dX5_read_44 : decode cX5_read 44 = .ok (.getfield 52, 3) := by decide +kernel
theorem dX5_read_47 : decode cX5_read 47 = .ok (.iload_n 1, 1) := by decide +kernel
theorem dX5_read_48 : decode cX5_read 48 = .ok (.laload, 1) := by decide +kernel
theorem dX5_read_49 : decode cX5_read 49 = .ok (.lreturn, 1) := by decide +kernel
theorem dX5_add_0 : decode cX5_add 0 = .ok (.aload_n 0, 1) := by decide +kernel
theorem dX5_add_1 : decode cX5_add 1 = .ok (.aload_n 0, 1) := by decide +kernel
theorem dX5_add_2 : decode cX5_add 2 = .ok (.getfield 44, 3) := by decide +kernel
theorem dX5_add_5 : decode cX5_add 5 = .ok (.ifCond .eq 7, 3) := by decide +kernel
theorem dX5_add_8 : decode cX5_add 8 = .ok (.iconst 0, 1) := by decide +kernel
theorem dX5_add_9 : decode cX5_add 9 = .ok (.goto 4, 3) := by decide +kernel
theorem dX5_add_12 : decode cX5_add 12 = .ok (.iconst 1, 1) := by decide +kernel
theorem dX5_add_13 : decode cX5_add 13 = .ok (.putfield 74, 3) := by decide +kernel
theorem dX5_add_16 : decode cX5_add 16 = .ok (.aload_n 0, 1) := by decide +kernel
theorem dX5_add_17 : decode cX5_add 17 = .ok (.getfield 74, 3) := by decide +kernel
theorem dX5_add_20 : decode cX5_add 20 = .ok (.ifCond .le 5, 3) := by decide +kernel
theorem dX5_add_23 : decode cX5_add 23 = .ok (.iconst 0, 1) := by decide +kernel
theorem dX5_add_24 : decode cX5_add 24 = .ok (.ireturn, 1) := by decide +kernel
theorem dX5_add_25 : decode cX5_add 25 = .ok (.aload_n 0, 1) := by decide +kernel
theorem dX5_add_26 : decode cX5_add 26 = .ok (.getfield 58, 3) := by decide +kernel
theorem dX5_add_29 : decode cX5_add 29 = .ok (.bipush 10, 2) := by decide +kernel
theorem dX5_add_31 : decode cX5_add 31 = .ok (.if_icmp .ne 5, 3) := by decide +kernel
theorem dX5_add_34 : decode cX5_add 34 = .ok (.iconst (-1), 1) := by decide +kernel
theorem dX5_add_35 : decode cX5_add 35 = .ok (.ireturn, 1) := by decide +kernel
theorem dX5_add_36 : decode cX5_add 36 = .ok (.aload_n 0, 1) := by decide +kernel
theorem dX5_add_37 : decode cX5_add 37 = .ok (.invokevirtual 83, 3) := by decide +kernel
theorem dX5_add_40 : decode cX5_add 40 = .ok (.ifCond .ne 5, 3) := by decide +kernel
theorem dX5_add_43 : decode cX5_add 43 = .ok (.iconst 0, 1) := by decide +kernel
theorem dX5_add_44 : decode cX5_add 44 = .ok (.ireturn, 1) := by decide +kernel
theorem dX5_add_45 : decode cX5_add 45 = .ok (.aload_n 0, 1) := by decide +kernel
theorem dX5_add_46 : decode cX5_add 46 = .ok (.dup, 1) := by decide +kernel
theorem dX5_add_47 : decode cX5_add 47 = .ok (.getfield 87, 3) := by decide +kernel
theorem dX5_add_50 : decode cX5_add 50 = .ok (.iconst 1, 1) := by decide +kernel
theorem dX5_add_51 : decode cX5_add 51 = .ok (.iadd, 1) := by decide +kernel
theorem dX5_add_52 : decode cX5_add 52 = .ok (.putfield 87, 3) := by decide +kernel
theorem dX5_add_55 : decode cX5_add 55 = .ok (.aload_n 0, 1) := by decide +kernel
theorem dX5_add_56 : decode cX5_add 56 = .ok (.aload_n 0, 1) := by decide +kernel
theorem dX5_add_57 : decode cX5_add 57 = .ok (.getfield 58, 3) := by decide +kernel
theorem dX5_add_60 : decode cX5_add 60 = .ok (.invokevirtual 131, 3) := by decide +kernel
theorem dX5_add_63 : decode cX5_add 63 = .ok (.aload_n 0, 1) := by decide +kernel
theorem dX5_add_64 : decode cX5_add 64 = .ok (.dup, 1) := by decide +kernel
theorem dX5_add_65 : decode cX5_add 65 = .ok (.getfield 58, 3) := by decide +kernel
theorem dX5_add_68 : decode cX5_add 68 = .ok (.iconst 1, 1) := by decide +kernel
theorem dX5_add_69 : decode cX5_add 69 = .ok (.iadd, 1) := by decide +kernel
theorem dX5_add_70 : decode cX5_add 70 = .ok (.putfield 58, 3) := by decide +kernel
theorem dX5_add_73 : decode cX5_add 73 = .ok (.aload_n 0, 1) := by decide +kernel
theorem dX5_add_74 : decode cX5_add 74 = .ok (.getfield 58, 3) := by decide +kernel
theorem dX5_add_77 : decode cX5_add 77 = .ok (.ireturn, 1) := by decide +kernel
theorem dX5_fresh_0 : decode cX5_fresh 0 = .ok (.aload_n 0, 1) := by decide +kernel
theorem dX5_fresh_1 : decode cX5_fresh 1 = .ok (.getfield 9, 3) := by decide +kernel
theorem dX5_fresh_4 : decode cX5_fresh 4 = .ok (.iload_n 1, 1) := by decide +kernel
theorem dX5_fresh_5 : decode cX5_fresh 5 = .ok (.iconst 0, 1) := by decide +kernel
theorem dX5_fresh_6 : decode cX5_fresh 6 = .ok (.iastore, 1) := by decide +kernel
theorem dX5_fresh_7 : decode cX5_fresh 7 = .ok (.aload_n 0, 1) := by decide +kernel
theorem dX5_fresh_8 : decode cX5_fresh 8 = .ok (.getfield 13, 3) := by decide +kernel
theorem dX5_fresh_11 : decode cX5_fresh 11 = .ok (.iload_n 1, 1) := by decide +kernel
