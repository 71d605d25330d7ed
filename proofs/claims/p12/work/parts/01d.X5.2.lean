theorem dX5_place_0 : decode cX5_place 0 = .ok (.aload_n 0, 1) := by decide +kernel
theorem dX5_place_1 : decode cX5_place 1 = .ok (.iconst 0, 1) := by decide +kernel
theorem dX5_place_2 : decode cX5_place 2 = .ok (.putfield 74, 3) := by decide +kernel
theorem dX5_place_5 : decode cX5_place 5 = .ok (.iload_n 1, 1) := by decide +kernel
theorem dX5_place_6 : decode cX5_place 6 = .ok (.ifCond .lt 11, 3) := by decide +kernel
theorem dX5_place_9 : decode cX5_place 9 = .ok (.iload_n 1, 1) := by decide +kernel
theorem dX5_place_10 : decode cX5_place 10 = .ok (.aload_n 0, 1) := by decide +kernel
theorem dX5_place_11 : decode cX5_place 11 = .ok (.invokevirtual 120, 3) := by decide +kernel
theorem dX5_place_14 : decode cX5_place 14 = .ok (.if_icmp .lt 5, 3) := by decide +kernel
theorem dX5_place_17 : decode cX5_place 17 = .ok (.iconst (-1), 1) := by decide +kernel
theorem dX5_place_18 : decode cX5_place 18 = .ok (.ireturn, 1) := by decide +kernel
theorem dX5_place_19 : decode cX5_place 19 = .ok (.iload_n 2, 1) := by decide +kernel
theorem dX5_place_20 : decode cX5_place 20 = .ok (.tableswitch 64 0 3 #[32, 38, 44, 50], 32) := by decide +kernel
theorem dX5_place_52 : decode cX5_place 52 = .ok (.aload_n 0, 1) := by decide +kernel
theorem dX5_place_53 : decode cX5_place 53 = .ok (.iload_n 1, 1) := by decide +kernel
theorem dX5_place_54 : decode cX5_place 54 = .ok (.invokevirtual 113, 3) := by decide +kernel
theorem dX5_place_57 : decode cX5_place 57 = .ok (.ireturn, 1) := by decide +kernel
theorem dX5_place_58 : decode cX5_place 58 = .ok (.aload_n 0, 1) := by decide +kernel
theorem dX5_place_59 : decode cX5_place 59 = .ok (.iload_n 1, 1) := by decide +kernel
theorem dX5_place_60 : decode cX5_place 60 = .ok (.invokevirtual 107, 3) := by decide +kernel
theorem dX5_place_63 : decode cX5_place 63 = .ok (.ireturn, 1) := by decide +kernel
theorem dX5_place_64 : decode cX5_place 64 = .ok (.aload_n 0, 1) := by decide +kernel
theorem dX5_place_65 : decode cX5_place 65 = .ok (.iload_n 1, 1) := by decide +kernel
theorem dX5_place_66 : decode cX5_place 66 = .ok (.invokevirtual 110, 3) := by decide +kernel
theorem dX5_place_69 : decode cX5_place 69 = .ok (.ireturn, 1) := by decide +kernel
theorem dX5_place_70 : decode cX5_place 70 = .ok (.aload_n 0, 1) := by decide +kernel
theorem dX5_place_71 : decode cX5_place 71 = .ok (.iload_n 1, 1) := by decide +kernel
theorem dX5_place_72 : decode cX5_place 72 = .ok (.invokevirtual 100, 3) := by decide +kernel
theorem dX5_place_75 : decode cX5_place 75 = .ok (.ifCond .eq 7, 3) := by decide +kernel
theorem dX5_place_78 : decode cX5_place 78 = .ok (.iconst 1, 1) := by decide +kernel
theorem dX5_place_79 : decode cX5_place 79 = .ok (.goto 4, 3) := by decide +kernel
theorem dX5_place_82 : decode cX5_place 82 = .ok (.iconst 0, 1) := by decide +kernel
theorem dX5_place_83 : decode cX5_place 83 = .ok (.ireturn, 1) := by decide +kernel
theorem dX5_place_84 : decode cX5_place 84 = .ok (.iconst (-1), 1) := by decide +kernel
theorem dX5_place_85 : decode cX5_place 85 = .ok (.ireturn, 1) := by decide +kernel
theorem dX5_disk_0 : decode cX5_disk 0 = .ok (.aload_n 0, 1) := by decide +kernel
theorem dX5_disk_1 : decode cX5_disk 1 = .ok (.iconst 0, 1) := by decide +kernel
theorem dX5_disk_2 : decode cX5_disk 2 = .ok (.putfield 74, 3) := by decide +kernel
theorem dX5_disk_5 : decode cX5_disk 5 = .ok (.iload_n 1, 1) := by decide +kernel
theorem dX5_disk_6 : decode cX5_disk 6 = .ok (.ifCond .lt 11, 3) := by decide +kernel
theorem dX5_disk_9 : decode cX5_disk 9 = .ok (.iload_n 1, 1) := by decide +kernel
theorem dX5_disk_10 : decode cX5_disk 10 = .ok (.aload_n 0, 1) := by decide +kernel
theorem dX5_disk_11 : decode cX5_disk 11 = .ok (.getfield 58, 3) := by decide +kernel
theorem dX5_disk_14 : decode cX5_disk 14 = .ok (.if_icmp .lt 5, 3) := by decide +kernel
theorem dX5_disk_17 : decode cX5_disk 17 = .ok (.iconst (-1), 1) := by decide +kernel
theorem dX5_disk_18 : decode cX5_disk 18 = .ok (.ireturn, 1) := by decide +kernel
theorem dX5_disk_19 : decode cX5_disk 19 = .ok (.aload_n 0, 1) := by decide +kernel
theorem dX5_disk_20 : decode cX5_disk 20 = .ok (.getfield 9, 3) := by decide +kernel
theorem dX5_disk_23 : decode cX5_disk 23 = .ok (.iload_n 1, 1) := by decide +kernel
theorem dX5_disk_24 : decode cX5_disk 24 = .ok (.iaload, 1) := by decide +kernel
theorem dX5_disk_25 : decode cX5_disk 25 = .ok (.iconst 1, 1) := by decide +kernel
theorem dX5_disk_26 : decode cX5_disk 26 = .ok (.if_icmp .eq 7, 3) := by decide +kernel
theorem dX5_disk_29 : decode cX5_disk 29 = .ok (.iconst 1, 1) := by decide +kernel
theorem dX5_disk_30 : decode cX5_disk 30 = .ok (.goto 4, 3) := by decide +kernel
theorem dX5_disk_33 : decode cX5_disk 33 = .ok (.iconst 0, 1) := by decide +kernel
theorem dX5_disk_34 : decode cX5_disk 34 = .ok (.istore_n 3, 1) := by decide +kernel
theorem dX5_disk_35 : decode cX5_disk 35 = .ok (.iload_n 2, 1) := by decide +kernel
theorem dX5_disk_36 : decode cX5_disk 36 = .ok (.tableswitch 121 0 5 #[40, 47, 61, 68, 83, 98], 40) := by decide +kernel
theorem dX5_disk_76 : decode cX5_disk 76 = .ok (.aload_n 0, 1) := by decide +kernel
theorem dX5_disk_77 : decode cX5_disk 77 = .ok (.getfield 9, 3) := by decide +kernel
theorem dX5_disk_80 : decode cX5_disk 80 = .ok (.iload_n 1, 1) := by decide +kernel
theorem dX5_disk_81 : decode cX5_disk 81 = .ok (.iaload, 1) := by decide +kernel
theorem dX5_disk_82 : decode cX5_disk 82 = .ok (.ireturn, 1) := by decide +kernel
theorem dX5_disk_83 : decode cX5_disk 83 = .ok (.iload_n 1, 1) := by decide +kernel
theorem dX5_disk_84 : decode cX5_disk 84 = .ok (.aload_n 0, 1) := by decide +kernel
theorem dX5_disk_85 : decode cX5_disk 85 = .ok (.getfield 67, 3) := by decide +kernel
theorem dX5_disk_88 : decode cX5_disk 88 = .ok (.if_icmp .ge 7, 3) := by decide +kernel
theorem dX5_disk_91 : decode cX5_disk 91 = .ok (.iconst 0, 1) := by decide +kernel
theorem dX5_disk_92 : decode cX5_disk 92 = .ok (.goto 4, 3) := by decide +kernel
theorem dX5_disk_95 : decode cX5_disk 95 = .ok (.iconst 1, 1) := by decide +kernel
theorem dX5_disk_96 : decode cX5_disk 96 = .ok (.ireturn, 1) := by decide +kernel
theorem dX5_disk_97 : decode cX5_disk 97 = .ok (.aload_n 0, 1) := by decide +kernel
theorem dX5_disk_98 : decode cX5_disk 98 = .ok (.getfield 13, 3) := by decide +kernel
theorem dX5_disk_101 : decode cX5_disk 101 = .ok (.iload_n 1, 1) := by decide +kernel
theorem dX5_disk_102 : decode cX5_disk 102 = .ok (.iaload, 1) := by decide +kernel
theorem dX5_disk_103 : decode cX5_disk 103 = .ok (.ireturn, 1) := by decide +kernel
theorem dX5_disk_104 : decode cX5_disk 104 = .ok (.iload_n 3, 1) := by decide +kernel
theorem dX5_disk_105 : decode cX5_disk 105 = .ok (.ifCond .eq 12, 3) := by decide +kernel
theorem dX5_disk_108 : decode cX5_disk 108 = .ok (.aload_n 0, 1) := by decide +kernel
theorem dX5_disk_109 : decode cX5_disk 109 = .ok (.getfield 16, 3) := by decide +kernel
theorem dX5_disk_112 : decode cX5_disk 112 = .ok (.iload_n 1, 1) := by decide +kernel
theorem dX5_disk_113 : decode cX5_disk 113 = .ok (.iaload, 1) := by decide +kernel
theorem dX5_disk_114 : decode cX5_disk 114 = .ok (.goto 4, 3) := by decide +kernel
theorem dX5_disk_117 : decode cX5_disk 117 = .ok (.iconst (-1), 1) := by decide +kernel
theorem dX5_disk_118 : decode cX5_disk 118 = .ok (.ireturn, 1) := by decide +kernel
theorem dX5_disk_119 : decode cX5_disk 119 = .ok (.iload_n 3, 1) := by decide +kernel
theorem dX5_disk_120 : decode cX5_disk 120 = .ok (.ifCond .eq 12, 3) := by decide +kernel
theorem dX5_disk_123 : decode cX5_disk 123 = .ok (.aload_n 0, 1) := by decide +kernel
theorem dX5_disk_124 : decode cX5_disk 124 = .ok (.getfield 28, 3) := by decide +kernel
theorem dX5_disk_127 : decode cX5_disk 127 = .ok (.iload_n 1, 1) := by decide +kernel
theorem dX5_disk_128 : decode cX5_disk 128 = .ok (.iaload, 1) := by decide +kernel
theorem dX5_disk_129 : decode cX5_disk 129 = .ok (.goto 4, 3) := by decide +kernel
theorem dX5_disk_132 : decode cX5_disk 132 = .ok (.iconst (-1), 1) := by decide +kernel
theorem dX5_disk_133 : decode cX5_disk 133 = .ok (.ireturn, 1) := by decide +kernel
theorem dX5_disk_134 : decode cX5_disk 134 = .ok (.iload_n 3, 1) := by decide +kernel
theorem dX5_disk_135 : decode cX5_disk 135 = .ok (.ifCond .ne 7, 3) := by decide +kernel
theorem dX5_disk_138 : decode cX5_disk 138 = .ok (.iconst (-1), 1) := by decide +kernel
theorem dX5_disk_139 : decode cX5_disk 139 = .ok (.goto 17, 3) := by decide +kernel
theorem dX5_disk_142 : decode cX5_disk 142 = .ok (.aload_n 0, 1) := by decide +kernel
theorem dX5_disk_143 : decode cX5_disk 143 = .ok (.getfield 37, 3) := by decide +kernel
theorem dX5_disk_146 : decode cX5_disk 146 = .ok (.iload_n 1, 1) := by decide +kernel
theorem dX5_disk_147 : decode cX5_disk 147 = .ok (.iaload, 1) := by decide +kernel
theorem dX5_disk_148 : decode cX5_disk 148 = .ok (.ifCond .le 7, 3) := by decide +kernel
theorem dX5_disk_151 : decode cX5_disk 151 = .ok (.iconst 1, 1) := by decide +kernel
theorem dX5_disk_152 : decode cX5_disk 152 = .ok (.goto 4, 3) := by decide +kernel
theorem dX5_disk_155 : decode cX5_disk 155 = .ok (.iconst 0, 1) := by decide +kernel
theorem dX5_disk_156 : decode cX5_disk 156 = .ok (.ireturn, 1) := by decide +kernel
theorem dX5_disk_157 : decode cX5_disk 157 = .ok (.iconst (-1), 1) := by decide +kernel
theorem dX5_disk_158 : decode cX5_disk 158 = .ok (.ireturn, 1) := by decide +kernel
theorem dX5_count_0 : decode cX5_count 0 = .ok (.aload_n 0, 1) := by decide +kernel
theorem dX5_count_1 : decode cX5_count 1 = .ok (.iconst 0, 1) := by decide +kernel
theorem dX5_count_2 : decode cX5_count 2 = .ok (.putfield 74, 3) := by decide +kernel
theorem dX5_count_5 : decode cX5_count 5 = .ok (.iload_n 1, 1) := by decide +kernel
theorem dX5_count_6 : decode cX5_count 6 = .ok (.tableswitch 165 0 14 #[74, 79, 84, 89, 94, 99, 112, 125, 130, 135, 140, 145, 150, 155, 160], 74) := by decide +kernel
theorem dX5_count_80 : decode cX5_count 80 = .ok (.aload_n 0, 1) := by decide +kernel
theorem dX5_count_81 : decode cX5_count 81 = .ok (.getfield 58, 3) := by decide +kernel
theorem dX5_count_84 : decode cX5_count 84 = .ok (.ireturn, 1) := by decide +kernel
theorem dX5_count_85 : decode cX5_count 85 = .ok (.aload_n 0, 1) := by decide +kernel
theorem dX5_count_86 : decode cX5_count 86 = .ok (.getfield 64, 3) := by decide +kernel
theorem dX5_count_89 : decode cX5_count 89 = .ok (.ireturn, 1) := by decide +kernel
theorem dX5_count_90 : decode cX5_count 90 = .ok (.aload_n 0, 1) := by decide +kernel
theorem dX5_count_91 : decode cX5_count 91 = .ok (.getfield 67, 3) := by decide +kernel
theorem dX5_count_94 : decode cX5_count 94 = .ok (.ireturn, 1) := by decide +kernel
theorem dX5_count_95 : decode cX5_count 95 = .ok (.aload_n 0, 1) := by decide +kernel
theorem dX5_count_96 : decode cX5_count 96 = .ok (.getfield 94, 3) := by decide +kernel
theorem dX5_count_99 : decode cX5_count 99 = .ok (.ireturn, 1) := by decide +kernel
theorem dX5_count_100 : decode cX5_count 100 = .ok (.aload_n 0, 1) := by decide +kernel
theorem dX5_count_101 : decode cX5_count 101 = .ok (.invokevirtual 120, 3) := by decide +kernel
theorem dX5_count_104 : decode cX5_count 104 = .ok (.ireturn, 1) := by decide +kernel
theorem dX5_count_105 : decode cX5_count 105 = .ok (.aload_n 0, 1) := by decide +kernel
theorem dX5_count_106 : decode cX5_count 106 = .ok (.getfield 44, 3) := by decide +kernel
theorem dX5_count_109 : decode cX5_count 109 = .ok (.ifCond .eq 7, 3) := by decide +kernel
theorem dX5_count_112 : decode cX5_count 112 = .ok (.iconst 1, 1) := by decide +kernel
theorem dX5_count_113 : decode cX5_count 113 = .ok (.goto 4, 3) := by decide +kernel
theorem dX5_count_116 : decode cX5_count 116 = .ok (.iconst 0, 1) := by decide +kernel
theorem dX5_count_117 : decode cX5_count 117 = .ok (.ireturn, 1) := by decide +kernel
theorem dX5_count_118 : decode cX5_count 118 = .ok (.aload_n 0, 1) := by decide +kernel
theorem dX5_count_119 : decode cX5_count 119 = .ok (.invokevirtual 97, 3) := by decide +kernel
theorem dX5_count_122 : decode cX5_count 122 = .ok (.ifCond .eq 7, 3) := by decide +kernel
theorem dX5_count_125 : decode cX5_count 125 = .ok (.iconst 1, 1) := by decide +kernel
theorem dX5_count_126 : decode cX5_count 126 = .ok (.goto 4, 3) := by decide +kernel
theorem dX5_count_129 : decode cX5_count 129 = .ok (.iconst 0, 1) := by decide +kernel
theorem dX5_count_130 : decode cX5_count 130 = .ok (.ireturn, 1) := by decide +kernel
theorem dX5_count_131 : decode cX5_count 131 = .ok (.aload_n 0, 1) := by decide +kernel
theorem dX5_count_132 : decode cX5_count 132 = .ok (.invokevirtual 154, 3) := by decide +kernel
theorem dX5_count_135 : decode cX5_count 135 = .ok (.ireturn, 1) := by decide +kernel
theorem dX5_count_136 : decode cX5_count 136 = .ok (.aload_n 0, 1) := by decide +kernel
theorem dX5_count_137 : decode cX5_count 137 = .ok (.getfield 80, 3) := by decide +kernel
theorem dX5_count_140 : decode cX5_count 140 = .ok (.ireturn, 1) := by decide +kernel
theorem dX5_count_141 : decode cX5_count 141 = .ok (.aload_n 0, 1) := by decide +kernel
theorem dX5_count_142 : decode cX5_count 142 = .ok (.getfield 61, 3) := by decide +kernel
theorem dX5_count_145 : decode cX5_count 145 = .ok (.ireturn, 1) := by decide +kernel
theorem dX5_count_146 : decode cX5_count 146 = .ok (.aload_n 0, 1) := by decide +kernel
theorem dX5_count_147 : decode cX5_count 147 = .ok (.getfield 124, 3) := by decide +kernel
theorem dX5_count_150 : decode cX5_count 150 = .ok (.ireturn, 1) := by decide +kernel
theorem dX5_count_151 : decode cX5_count 151 = .ok (.aload_n 0, 1) := by decide +kernel
theorem dX5_count_152 : decode cX5_count 152 = .ok (.getfield 87, 3) := by decide +kernel
theorem dX5_count_155 : decode cX5_count 155 = .ok (.ireturn, 1) := by decide +kernel
theorem dX5_count_156 : decode cX5_count 156 = .ok (.aload_n 0, 1) := by decide +kernel
theorem dX5_count_157 : decode cX5_count 157 = .ok (.getfield 142, 3) := by decide +kernel
theorem dX5_count_160 : decode cX5_count 160 = .ok (.ireturn, 1) := by decide +kernel
theorem dX5_count_161 : decode cX5_count 161 = .ok (.aload_n 0, 1) := by decide +kernel
theorem dX5_count_162 : decode cX5_count 162 = .ok (.getfield 77, 3) := by decide +kernel
theorem dX5_count_165 : decode cX5_count 165 = .ok (.ireturn, 1) := by decide +kernel
theorem dX5_count_166 : decode cX5_count 166 = .ok (.aload_n 0, 1) := by decide +kernel
theorem dX5_count_167 : decode cX5_count 167 = .ok (.getfield 55, 3) := by decide +kernel
theorem dX5_count_170 : decode cX5_count 170 = .ok (.ireturn, 1) := by decide +kernel
theorem dX5_count_171 : decode cX5_count 171 = .ok (.iconst (-1), 1) := by decide +kernel
theorem dX5_count_172 : decode cX5_count 172 = .ok (.ireturn, 1) := by decide +kernel
theorem dX5_astray_0 : decode cX5_astray 0 = .ok (.aload_n 0, 1) := by decide +kernel
theorem dX5_astray_1 : decode cX5_astray 1 = .ok (.iconst 0, 1) := by decide +kernel
theorem dX5_astray_2 : decode cX5_astray 2 = .ok (.putfield 74, 3) := by decide +kernel
theorem dX5_astray_5 : decode cX5_astray 5 = .ok (.aload_n 0, 1) := by decide +kernel
theorem dX5_astray_6 : decode cX5_astray 6 = .ok (.invokevirtual 154, 3) := by decide +kernel
theorem dX5_astray_9 : decode cX5_astray 9 = .ok (.istore_n 1, 1) := by decide +kernel
theorem dX5_astray_10 : decode cX5_astray 10 = .ok (.aload_n 0, 1) := by decide +kernel
theorem dX5_astray_11 : decode cX5_astray 11 = .ok (.getfield 44, 3) := by decide +kernel
theorem dX5_astray_14 : decode cX5_astray 14 = .ok (.ifCond .eq 16, 3) := by decide +kernel
theorem dX5_astray_17 : decode cX5_astray 17 = .ok (.iload_n 1, 1) := by decide +kernel
theorem dX5_astray_18 : decode cX5_astray 18 = .ok (.iconst (-1), 1) := by decide +kernel
theorem dX5_astray_19 : decode cX5_astray 19 = .ok (.if_icmp .eq 15, 3) := by decide +kernel
theorem dX5_astray_22 : decode cX5_astray 22 = .ok (.iload_n 1, 1) := by decide +kernel
theorem dX5_astray_23 : decode cX5_astray 23 = .ok (.aload_n 0, 1) := by decide +kernel
theorem dX5_astray_24 : decode cX5_astray 24 = .ok (.getfield 67, 3) := by decide +kernel
theorem dX5_astray_27 : decode cX5_astray 27 = .ok (.if_icmp .ge 7, 3) := by decide +kernel
theorem dX5_astray_30 : decode cX5_astray 30 = .ok (.iconst (-1), 1) := by decide +kernel
theorem dX5_astray_31 : decode cX5_astray 31 = .ok (.goto 4, 3) := by decide +kernel
theorem dX5_astray_34 : decode cX5_astray 34 = .ok (.iconst 0, 1) := by decide +kernel
theorem dX5_astray_35 : decode cX5_astray 35 = .ok (.ireturn, 1) := by decide +kernel
theorem dX5_sum_0 : decode cX5_sum 0 = .ok (.aload_n 0, 1) := by decide +kernel
theorem dX5_sum_1 : decode cX5_sum 1 = .ok (.aload_n 0, 1) := by decide +kernel
theorem dX5_sum_2 : decode cX5_sum 2 = .ok (.getfield 44, 3) := by decide +kernel
theorem dX5_sum_5 : decode cX5_sum 5 = .ok (.ifCond .eq 7, 3) := by decide +kernel
theorem dX5_sum_8 : decode cX5_sum 8 = .ok (.iconst 0, 1) := by decide +kernel
theorem dX5_sum_9 : decode cX5_sum 9 = .ok (.goto 4, 3) := by decide +kernel
theorem dX5_sum_12 : decode cX5_sum 12 = .ok (.iconst 1, 1) := by decide +kernel
theorem dX5_sum_13 : decode cX5_sum 13 = .ok (.putfield 74, 3) := by decide +kernel
theorem dX5_sum_16 : decode cX5_sum 16 = .ok (.aload_n 0, 1) := by decide +kernel
theorem dX5_sum_17 : decode cX5_sum 17 = .ok (.getfield 74, 3) := by decide +kernel
theorem dX5_sum_20 : decode cX5_sum 20 = .ok (.ifCond .le 5, 3) := by decide +kernel
theorem dX5_sum_23 : decode cX5_sum 23 = .ok (.lconst 0, 1) := by decide +kernel
theorem dX5_sum_24 : decode cX5_sum 24 = .ok (.lreturn, 1) := by decide +kernel
theorem dX5_sum_25 : decode cX5_sum 25 = .ok (.lconst 0, 1) := by decide +kernel
theorem dX5_sum_26 : decode cX5_sum 26 = .ok (.lstore_n 1, 1) := by decide +kernel
theorem dX5_sum_27 : decode cX5_sum 27 = .ok (.iconst 0, 1) := by decide +kernel
theorem dX5_sum_28 : decode cX5_sum 28 = .ok (.istore_n 3, 1) := by decide +kernel
theorem dX5_sum_29 : decode cX5_sum 29 = .ok (.iload_n 3, 1) := by decide +kernel
theorem dX5_sum_30 : decode cX5_sum 30 = .ok (.aload_n 0, 1) := by decide +kernel
theorem dX5_sum_31 : decode cX5_sum 31 = .ok (.invokevirtual 120, 3) := by decide +kernel
theorem dX5_sum_34 : decode cX5_sum 34 = .ok (.if_icmp .ge 22, 3) := by decide +kernel
theorem dX5_sum_37 : decode cX5_sum 37 = .ok (.ldc2_w 157, 3) := by decide +kernel
theorem dX5_sum_40 : decode cX5_sum 40 = .ok (.lload_n 1, 1) := by decide +kernel
theorem dX5_sum_41 : decode cX5_sum 41 = .ok (.lmul, 1) := by decide +kernel
theorem dX5_sum_42 : decode cX5_sum 42 = .ok (.aload_n 0, 1) := by decide +kernel
theorem dX5_sum_43 : decode cX5_sum 43 = .ok (.getfield 52, 3) := by decide +kernel
theorem dX5_sum_46 : decode cX5_sum 46 = .ok (.iload_n 3, 1) := by decide +kernel
theorem dX5_sum_47 : decode cX5_sum 47 = .ok (.laload, 1) := by decide +kernel
theorem dX5_sum_48 : decode cX5_sum 48 = .ok (.ladd, 1) := by decide +kernel
theorem dX5_sum_49 : decode cX5_sum 49 = .ok (.lstore_n 1, 1) := by decide +kernel
theorem dX5_sum_50 : decode cX5_sum 50 = .ok (.iinc 3 1, 3) := by decide +kernel
theorem dX5_sum_53 : decode cX5_sum 53 = .ok (.goto (-24), 3) := by decide +kernel
theorem dX5_sum_56 : decode cX5_sum 56 = .ok (.lload_n 1, 1) := by decide +kernel
theorem dX5_sum_57 : decode cX5_sum 57 = .ok (.lreturn, 1) := by decide +kernel
