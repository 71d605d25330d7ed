theorem dX4_init_0 : decode cX4_init 0 = .ok (.aload_n 0, 1) := by decide +kernel
theorem dX4_init_1 : decode cX4_init 1 = .ok (.invokespecial 1, 3) := by decide +kernel
theorem dX4_init_4 : decode cX4_init 4 = .ok (.aload_n 0, 1) := by decide +kernel
theorem dX4_init_5 : decode cX4_init 5 = .ok (.iload_n 1, 1) := by decide +kernel
theorem dX4_init_6 : decode cX4_init 6 = .ok (.iconst 3, 1) := by decide +kernel
theorem dX4_init_7 : decode cX4_init 7 = .ok (.if_icmp .lt 13, 3) := by decide +kernel
theorem dX4_init_10 : decode cX4_init 10 = .ok (.iload_n 1, 1) := by decide +kernel
theorem dX4_init_11 : decode cX4_init 11 = .ok (.bipush 7, 2) := by decide +kernel
theorem dX4_init_13 : decode cX4_init 13 = .ok (.if_icmp .gt 7, 3) := by decide +kernel
theorem dX4_init_16 : decode cX4_init 16 = .ok (.iload_n 1, 1) := by decide +kernel
theorem dX4_init_17 : decode cX4_init 17 = .ok (.goto 4, 3) := by decide +kernel
theorem dX4_init_20 : decode cX4_init 20 = .ok (.iconst 4, 1) := by decide +kernel
theorem dX4_init_21 : decode cX4_init 21 = .ok (.putfield 7, 3) := by decide +kernel
theorem dX4_init_24 : decode cX4_init 24 = .ok (.aload_n 0, 1) := by decide +kernel
theorem dX4_init_25 : decode cX4_init 25 = .ok (.iload_n 2, 1) := by decide +kernel
theorem dX4_init_26 : decode cX4_init 26 = .ok (.iconst 2, 1) := by decide +kernel
theorem dX4_init_27 : decode cX4_init 27 = .ok (.if_icmp .lt 13, 3) := by decide +kernel
theorem dX4_init_30 : decode cX4_init 30 = .ok (.iload_n 2, 1) := by decide +kernel
theorem dX4_init_31 : decode cX4_init 31 = .ok (.bipush 48, 2) := by decide +kernel
theorem dX4_init_33 : decode cX4_init 33 = .ok (.if_icmp .gt 7, 3) := by decide +kernel
theorem dX4_init_36 : decode cX4_init 36 = .ok (.iload_n 2, 1) := by decide +kernel
theorem dX4_init_37 : decode cX4_init 37 = .ok (.goto 5, 3) := by decide +kernel
theorem dX4_init_40 : decode cX4_init 40 = .ok (.bipush 16, 2) := by decide +kernel
theorem dX4_init_42 : decode cX4_init 42 = .ok (.putfield 13, 3) := by decide +kernel
theorem dX4_init_45 : decode cX4_init 45 = .ok (.aload_n 0, 1) := by decide +kernel
theorem dX4_init_46 : decode cX4_init 46 = .ok (.new 16, 3) := by decide +kernel
theorem dX4_init_49 : decode cX4_init 49 = .ok (.dup, 1) := by decide +kernel
theorem dX4_init_50 : decode cX4_init 50 = .ok (.invokespecial 18, 3) := by decide +kernel
theorem dX4_init_53 : decode cX4_init 53 = .ok (.putfield 19, 3) := by decide +kernel
theorem dX4_init_56 : decode cX4_init 56 = .ok (.aload_n 0, 1) := by decide +kernel
theorem dX4_init_57 : decode cX4_init 57 = .ok (.getfield 19, 3) := by decide +kernel
theorem dX4_init_60 : decode cX4_init 60 = .ok (.iconst 1, 1) := by decide +kernel
theorem dX4_init_61 : decode cX4_init 61 = .ok (.aload_n 0, 1) := by decide +kernel
theorem dX4_init_62 : decode cX4_init 62 = .ok (.getfield 7, 3) := by decide +kernel
theorem dX4_init_65 : decode cX4_init 65 = .ok (.aload_n 0, 1) := by decide +kernel
theorem dX4_init_66 : decode cX4_init 66 = .ok (.getfield 7, 3) := by decide +kernel
theorem dX4_init_69 : decode cX4_init 69 = .ok (.iconst 0, 1) := by decide +kernel
theorem dX4_init_70 : decode cX4_init 70 = .ok (.invokevirtual 23, 3) := by decide +kernel
theorem dX4_init_73 : decode cX4_init 73 = .ok (.aload_n 0, 1) := by decide +kernel
theorem dX4_init_74 : decode cX4_init 74 = .ok (.new 27, 3) := by decide +kernel
theorem dX4_init_77 : decode cX4_init 77 = .ok (.dup, 1) := by decide +kernel
theorem dX4_init_78 : decode cX4_init 78 = .ok (.invokespecial 29, 3) := by decide +kernel
theorem dX4_init_81 : decode cX4_init 81 = .ok (.putfield 30, 3) := by decide +kernel
theorem dX4_init_84 : decode cX4_init 84 = .ok (.aload_n 0, 1) := by decide +kernel
theorem dX4_init_85 : decode cX4_init 85 = .ok (.bipush 10, 2) := by decide +kernel
theorem dX4_init_87 : decode cX4_init 87 = .ok (.newarray .long, 2) := by decide +kernel
theorem dX4_init_89 : decode cX4_init 89 = .ok (.putfield 34, 3) := by decide +kernel
theorem dX4_init_92 : decode cX4_init 92 = .ok (.aload_n 0, 1) := by decide +kernel
theorem dX4_init_93 : decode cX4_init 93 = .ok (.bipush 10, 2) := by decide +kernel
theorem dX4_init_95 : decode cX4_init 95 = .ok (.anewarray 38, 3) := by decide +kernel
theorem dX4_init_98 : decode cX4_init 98 = .ok (.putfield 40, 3) := by decide +kernel
theorem dX4_init_101 : decode cX4_init 101 = .ok (.iconst 0, 1) := by decide +kernel
theorem dX4_init_102 : decode cX4_init 102 = .ok (.istore_n 3, 1) := by decide +kernel
theorem dX4_init_103 : decode cX4_init 103 = .ok (.iload_n 3, 1) := by decide +kernel
theorem dX4_init_104 : decode cX4_init 104 = .ok (.bipush 10, 2) := by decide +kernel
theorem dX4_init_106 : decode cX4_init 106 = .ok (.if_icmp .ge 50, 3) := by decide +kernel
theorem dX4_init_109 : decode cX4_init 109 = .ok (.new 38, 3) := by decide +kernel
theorem dX4_init_112 : decode cX4_init 112 = .ok (.dup, 1) := by decide +kernel
theorem dX4_init_113 : decode cX4_init 113 = .ok (.aload_n 0, 1) := by decide +kernel
theorem dX4_init_114 : decode cX4_init 114 = .ok (.getfield 13, 3) := by decide +kernel
theorem dX4_init_117 : decode cX4_init 117 = .ok (.invokespecial 44, 3) := by decide +kernel
theorem dX4_init_120 : decode cX4_init 120 = .ok (.astore 4, 2) := by decide +kernel
theorem dX4_init_122 : decode cX4_init 122 = .ok (.iload_n 3, 1) := by decide +kernel
theorem dX4_init_123 : decode cX4_init 123 = .ok (.aload_n 0, 1) := by decide +kernel
theorem dX4_init_124 : decode cX4_init 124 = .ok (.getfield 7, 3) := by decide +kernel
theorem dX4_init_127 : decode cX4_init 127 = .ok (.if_icmp .ge 15, 3) := by decide +kernel
theorem dX4_init_130 : decode cX4_init 130 = .ok (.aload 4, 2) := by decide +kernel
theorem dX4_init_132 : decode cX4_init 132 = .ok (.getfield 47, 3) := by decide +kernel
theorem dX4_init_135 : decode cX4_init 135 = .ok (.aload_n 0, 1) := by decide +kernel
theorem dX4_init_136 : decode cX4_init 136 = .ok (.getfield 19, 3) := by decide +kernel
theorem dX4_init_139 : decode cX4_init 139 = .ok (.invokevirtual 50, 3) := by decide +kernel
theorem dX4_init_142 : decode cX4_init 142 = .ok (.aload_n 0, 1) := by decide +kernel
theorem dX4_init_143 : decode cX4_init 143 = .ok (.getfield 40, 3) := by decide +kernel
theorem dX4_init_146 : decode cX4_init 146 = .ok (.iload_n 3, 1) := by decide +kernel
theorem dX4_init_147 : decode cX4_init 147 = .ok (.aload 4, 2) := by decide +kernel
theorem dX4_init_149 : decode cX4_init 149 = .ok (.aastore, 1) := by decide +kernel
theorem dX4_init_150 : decode cX4_init 150 = .ok (.iinc 3 1, 3) := by decide +kernel
theorem dX4_init_153 : decode cX4_init 153 = .ok (.goto (-50), 3) := by decide +kernel
theorem dX4_init_156 : decode cX4_init 156 = .ok (.aload_n 0, 1) := by decide +kernel
theorem dX4_init_157 : decode cX4_init 157 = .ok (.iconst 1, 1) := by decide +kernel
theorem dX4_init_158 : decode cX4_init 158 = .ok (.putfield 54, 3) := by decide +kernel
theorem dX4_init_161 : decode cX4_init 161 = .ok (.aload_n 0, 1) := by decide +kernel
theorem dX4_init_162 : decode cX4_init 162 = .ok (.iconst (-1), 1) := by decide +kernel
theorem dX4_init_163 : decode cX4_init 163 = .ok (.putfield 58, 3) := by decide +kernel
theorem dX4_init_166 : decode cX4_init 166 = .ok (.return_, 1) := by decide +kernel
theorem dX4_write_0 : decode cX4_write 0 = .ok (.aload_n 0, 1) := by decide +kernel
theorem dX4_write_1 : decode cX4_write 1 = .ok (.invokevirtual 61, 3) := by decide +kernel
theorem dX4_write_4 : decode cX4_write 4 = .ok (.aload_n 0, 1) := by decide +kernel
theorem dX4_write_5 : decode cX4_write 5 = .ok (.iload_n 1, 1) := by decide +kernel
theorem dX4_write_6 : decode cX4_write 6 = .ok (.invokevirtual 64, 3) := by decide +kernel
theorem dX4_write_9 : decode cX4_write 9 = .ok (.aload_n 0, 1) := by decide +kernel
theorem dX4_write_10 : decode cX4_write 10 = .ok (.iload_n 1, 1) := by decide +kernel
theorem dX4_write_11 : decode cX4_write 11 = .ok (.invokevirtual 67, 3) := by decide +kernel
theorem dX4_write_14 : decode cX4_write 14 = .ok (.istore 4, 2) := by decide +kernel
theorem dX4_write_16 : decode cX4_write 16 = .ok (.iload 4, 2) := by decide +kernel
theorem dX4_write_18 : decode cX4_write 18 = .ok (.iload_n 1, 1) := by decide +kernel
theorem dX4_write_19 : decode cX4_write 19 = .ok (.invokestatic 71, 3) := by decide +kernel
theorem dX4_write_22 : decode cX4_write 22 = .ok (.istore 5, 2) := by decide +kernel
theorem dX4_write_24 : decode cX4_write 24 = .ok (.iload 4, 2) := by decide +kernel
theorem dX4_write_26 : decode cX4_write 26 = .ok (.iload_n 1, 1) := by decide +kernel
theorem dX4_write_27 : decode cX4_write 27 = .ok (.invokestatic 75, 3) := by decide +kernel
theorem dX4_write_30 : decode cX4_write 30 = .ok (.istore 6, 2) := by decide +kernel
theorem dX4_write_32 : decode cX4_write 32 = .ok (.aload_n 0, 1) := by decide +kernel
theorem dX4_write_33 : decode cX4_write 33 = .ok (.dup, 1) := by decide +kernel
theorem dX4_write_34 : decode cX4_write 34 = .ok (.getfield 78, 3) := by decide +kernel
theorem dX4_write_37 : decode cX4_write 37 = .ok (.iconst 1, 1) := by decide +kernel
theorem dX4_write_38 : decode cX4_write 38 = .ok (.iadd, 1) := by decide +kernel
theorem dX4_write_39 : decode cX4_write 39 = .ok (.putfield 78, 3) := by decide +kernel
theorem dX4_write_42 : decode cX4_write 42 = .ok (.aload_n 0, 1) := by decide +kernel
theorem dX4_write_43 : decode cX4_write 43 = .ok (.getfield 30, 3) := by decide +kernel
theorem dX4_write_46 : decode cX4_write 46 = .ok (.aload_n 0, 1) := by decide +kernel
theorem dX4_write_47 : decode cX4_write 47 = .ok (.getfield 19, 3) := by decide +kernel
theorem dX4_write_50 : decode cX4_write 50 = .ok (.getfield 81, 3) := by decide +kernel
theorem dX4_write_53 : decode cX4_write 53 = .ok (.aload_n 0, 1) := by decide +kernel
theorem dX4_write_54 : decode cX4_write 54 = .ok (.getfield 78, 3) := by decide +kernel
theorem dX4_write_57 : decode cX4_write 57 = .ok (.iload 5, 2) := by decide +kernel
theorem dX4_write_59 : decode cX4_write 59 = .ok (.iload 6, 2) := by decide +kernel
theorem dX4_write_61 : decode cX4_write 61 = .ok (.iload 4, 2) := by decide +kernel
theorem dX4_write_63 : decode cX4_write 63 = .ok (.iload 5, 2) := by decide +kernel
theorem dX4_write_65 : decode cX4_write 65 = .ok (.invokestatic 84, 3) := by decide +kernel
theorem dX4_write_68 : decode cX4_write 68 = .ok (.invokevirtual 87, 3) := by decide +kernel
theorem dX4_write_71 : decode cX4_write 71 = .ok (.aload_n 0, 1) := by decide +kernel
theorem dX4_write_72 : decode cX4_write 72 = .ok (.getfield 30, 3) := by decide +kernel
theorem dX4_write_75 : decode cX4_write 75 = .ok (.lload_n 2, 1) := by decide +kernel
theorem dX4_write_76 : decode cX4_write 76 = .ok (.putfield 90, 3) := by decide +kernel
theorem dX4_write_79 : decode cX4_write 79 = .ok (.aload_n 0, 1) := by decide +kernel
theorem dX4_write_80 : decode cX4_write 80 = .ok (.getfield 30, 3) := by decide +kernel
theorem dX4_write_83 : decode cX4_write 83 = .ok (.aload_n 0, 1) := by decide +kernel
theorem dX4_write_84 : decode cX4_write 84 = .ok (.iload 4, 2) := by decide +kernel
theorem dX4_write_86 : decode cX4_write 86 = .ok (.iload 5, 2) := by decide +kernel
theorem dX4_write_88 : decode cX4_write 88 = .ok (.iload 6, 2) := by decide +kernel
theorem dX4_write_90 : decode cX4_write 90 = .ok (.lload_n 2, 1) := by decide +kernel
theorem dX4_write_91 : decode cX4_write 91 = .ok (.invokevirtual 94, 3) := by decide +kernel
theorem dX4_write_94 : decode cX4_write 94 = .ok (.putfield 98, 3) := by decide +kernel
theorem dX4_write_97 : decode cX4_write 97 = .ok (.aload_n 0, 1) := by decide +kernel
theorem dX4_write_98 : decode cX4_write 98 = .ok (.invokevirtual 101, 3) := by decide +kernel
theorem dX4_write_101 : decode cX4_write 101 = .ok (.aload_n 0, 1) := by decide +kernel
theorem dX4_write_102 : decode cX4_write 102 = .ok (.getfield 54, 3) := by decide +kernel
theorem dX4_write_105 : decode cX4_write 105 = .ok (.ireturn, 1) := by decide +kernel
theorem dX4_read_0 : decode cX4_read 0 = .ok (.aload_n 0, 1) := by decide +kernel
theorem dX4_read_1 : decode cX4_read 1 = .ok (.invokevirtual 61, 3) := by decide +kernel
theorem dX4_read_4 : decode cX4_read 4 = .ok (.aload_n 0, 1) := by decide +kernel
theorem dX4_read_5 : decode cX4_read 5 = .ok (.iload_n 1, 1) := by decide +kernel
theorem dX4_read_6 : decode cX4_read 6 = .ok (.invokevirtual 64, 3) := by decide +kernel
theorem dX4_read_9 : decode cX4_read 9 = .ok (.aload_n 0, 1) := by decide +kernel
theorem dX4_read_10 : decode cX4_read 10 = .ok (.iload_n 1, 1) := by decide +kernel
theorem dX4_read_11 : decode cX4_read 11 = .ok (.invokevirtual 104, 3) := by decide +kernel
theorem dX4_read_14 : decode cX4_read 14 = .ok (.lreturn, 1) := by decide +kernel
theorem dX4_add_0 : decode cX4_add 0 = .ok (.aload_n 0, 1) := by decide +kernel
theorem dX4_add_1 : decode cX4_add 1 = .ok (.invokevirtual 61, 3) := by decide +kernel
theorem dX4_add_4 : decode cX4_add 4 = .ok (.aload_n 0, 1) := by decide +kernel
theorem dX4_add_5 : decode cX4_add 5 = .ok (.getfield 7, 3) := by decide +kernel
theorem dX4_add_8 : decode cX4_add 8 = .ok (.bipush 10, 2) := by decide +kernel
theorem dX4_add_10 : decode cX4_add 10 = .ok (.if_icmp .lt 5, 3) := by decide +kernel
theorem dX4_add_13 : decode cX4_add 13 = .ok (.iconst (-1), 1) := by decide +kernel
theorem dX4_add_14 : decode cX4_add 14 = .ok (.ireturn, 1) := by decide +kernel
theorem dX4_add_15 : decode cX4_add 15 = .ok (.aload_n 0, 1) := by decide +kernel
theorem dX4_add_16 : decode cX4_add 16 = .ok (.invokevirtual 108, 3) := by decide +kernel
theorem dX4_add_19 : decode cX4_add 19 = .ok (.ifCond .ne 5, 3) := by decide +kernel
theorem dX4_add_22 : decode cX4_add 22 = .ok (.iconst 0, 1) := by decide +kernel
theorem dX4_add_23 : decode cX4_add 23 = .ok (.ireturn, 1) := by decide +kernel
theorem dX4_add_24 : decode cX4_add 24 = .ok (.aload_n 0, 1) := by decide +kernel
theorem dX4_add_25 : decode cX4_add 25 = .ok (.getfield 40, 3) := by decide +kernel
theorem dX4_add_28 : decode cX4_add 28 = .ok (.aload_n 0, 1) := by decide +kernel
theorem dX4_add_29 : decode cX4_add 29 = .ok (.getfield 7, 3) := by decide +kernel
theorem dX4_add_32 : decode cX4_add 32 = .ok (.aaload, 1) := by decide +kernel
theorem dX4_add_33 : decode cX4_add 33 = .ok (.aload_n 0, 1) := by decide +kernel
theorem dX4_add_34 : decode cX4_add 34 = .ok (.getfield 19, 3) := by decide +kernel
theorem dX4_add_37 : decode cX4_add 37 = .ok (.invokevirtual 112, 3) := by decide +kernel
theorem dX4_add_40 : decode cX4_add 40 = .ok (.aload_n 0, 1) := by decide +kernel
theorem dX4_add_41 : decode cX4_add 41 = .ok (.dup, 1) := by decide +kernel
theorem dX4_add_42 : decode cX4_add 42 = .ok (.getfield 7, 3) := by decide +kernel
theorem dX4_add_45 : decode cX4_add 45 = .ok (.iconst 1, 1) := by decide +kernel
theorem dX4_add_46 : decode cX4_add 46 = .ok (.iadd, 1) := by decide +kernel
theorem dX4_add_47 : decode cX4_add 47 = .ok (.putfield 7, 3) := by decide +kernel
theorem dX4_add_50 : decode cX4_add 50 = .ok (.aload_n 0, 1) := by decide +kernel
theorem dX4_add_51 : decode cX4_add 51 = .ok (.getfield 7, 3) := by decide +kernel
theorem dX4_add_54 : decode cX4_add 54 = .ok (.ireturn, 1) := by decide +kernel
theorem dX4_grow_0 : decode cX4_grow 0 = .ok (.aload_n 0, 1) := by decide +kernel
theorem dX4_grow_1 : decode cX4_grow 1 = .ok (.invokevirtual 61, 3) := by decide +kernel
theorem dX4_grow_4 : decode cX4_grow 4 = .ok (.aload_n 0, 1) := by decide +kernel
theorem dX4_grow_5 : decode cX4_grow 5 = .ok (.getfield 19, 3) := by decide +kernel
theorem dX4_grow_8 : decode cX4_grow 8 = .ok (.getfield 115, 3) := by decide +kernel
theorem dX4_grow_11 : decode cX4_grow 11 = .ok (.aload_n 0, 1) := by decide +kernel
theorem dX4_grow_12 : decode cX4_grow 12 = .ok (.getfield 7, 3) := by decide +kernel
theorem dX4_grow_15 : decode cX4_grow 15 = .ok (.if_icmp .ge 18, 3) := by decide +kernel
theorem dX4_grow_18 : decode cX4_grow 18 = .ok (.aload_n 0, 1) := by decide +kernel
theorem dX4_grow_19 : decode cX4_grow 19 = .ok (.invokevirtual 118, 3) := by decide +kernel
theorem dX4_grow_22 : decode cX4_grow 22 = .ok (.ifCond .ne 11, 3) := by decide +kernel
theorem dX4_grow_25 : decode cX4_grow 25 = .ok (.aload_n 0, 1) := by decide +kernel
theorem dX4_grow_26 : decode cX4_grow 26 = .ok (.invokevirtual 121, 3) := by decide +kernel
theorem dX4_grow_29 : decode cX4_grow 29 = .ok (.iconst (-1), 1) := by decide +kernel
theorem dX4_grow_30 : decode cX4_grow 30 = .ok (.if_icmp .eq 5, 3) := by decide +kernel
theorem dX4_grow_33 : decode cX4_grow 33 = .ok (.iconst (-1), 1) := by decide +kernel
theorem dX4_grow_34 : decode cX4_grow 34 = .ok (.ireturn, 1) := by decide +kernel
theorem dX4_grow_35 : decode cX4_grow 35 = .ok (.aload_n 0, 1) := by decide +kernel
theorem dX4_grow_36 : decode cX4_grow 36 = .ok (.aload_n 0, 1) := by decide +kernel
theorem dX4_grow_37 : decode cX4_grow 37 = .ok (.getfield 19, 3) := by decide +kernel
theorem dX4_grow_40 : decode cX4_grow 40 = .ok (.getfield 125, 3) := by decide +kernel
theorem dX4_grow_43 : decode cX4_grow 43 = .ok (.aload_n 0, 1) := by decide +kernel
theorem dX4_grow_44 : decode cX4_grow 44 = .ok (.getfield 7, 3) := by decide +kernel
theorem dX4_grow_47 : decode cX4_grow 47 = .ok (.iconst 0, 1) := by decide +kernel
theorem dX4_grow_48 : decode cX4_grow 48 = .ok (.iconst (-1), 1) := by decide +kernel
theorem dX4_grow_49 : decode cX4_grow 49 = .ok (.invokevirtual 128, 3) := by decide +kernel
theorem dX4_grow_52 : decode cX4_grow 52 = .ok (.aload_n 0, 1) := by decide +kernel
theorem dX4_grow_53 : decode cX4_grow 53 = .ok (.getfield 54, 3) := by decide +kernel
theorem dX4_grow_56 : decode cX4_grow 56 = .ok (.ifCond .eq 13, 3) := by decide +kernel
theorem dX4_grow_59 : decode cX4_grow 59 = .ok (.aload_n 0, 1) := by decide +kernel
theorem dX4_grow_60 : decode cX4_grow 60 = .ok (.getfield 19, 3) := by decide +kernel
theorem dX4_grow_63 : decode cX4_grow 63 = .ok (.getfield 115, 3) := by decide +kernel
theorem dX4_grow_66 : decode cX4_grow 66 = .ok (.goto 4, 3) := by decide +kernel
theorem dX4_grow_69 : decode cX4_grow 69 = .ok (.iconst 0, 1) := by decide +kernel
theorem dX4_grow_70 : decode cX4_grow 70 = .ok (.ireturn, 1) := by decide +kernel
theorem dX4_step_0 : decode cX4_step 0 = .ok (.aload_n 0, 1) := by decide +kernel
theorem dX4_step_1 : decode cX4_step 1 = .ok (.invokevirtual 61, 3) := by decide +kernel
theorem dX4_step_4 : decode cX4_step 4 = .ok (.aload_n 0, 1) := by decide +kernel
theorem dX4_step_5 : decode cX4_step 5 = .ok (.invokevirtual 118, 3) := by decide +kernel
theorem dX4_step_8 : decode cX4_step 8 = .ok (.ifCond .eq 11, 3) := by decide +kernel
theorem dX4_step_11 : decode cX4_step 11 = .ok (.aload_n 0, 1) := by decide +kernel
theorem dX4_step_12 : decode cX4_step 12 = .ok (.invokevirtual 121, 3) := by decide +kernel
theorem dX4_step_15 : decode cX4_step 15 = .ok (.iconst (-1), 1) := by decide +kernel
theorem dX4_step_16 : decode cX4_step 16 = .ok (.if_icmp .eq 5, 3) := by decide +kernel
theorem dX4_step_19 : decode cX4_step 19 = .ok (.iconst (-1), 1) := by decide +kernel
theorem dX4_step_20 : decode cX4_step 20 = .ok (.ireturn, 1) := by decide +kernel
theorem dX4_step_21 : decode cX4_step 21 = .ok (.aload_n 0, 1) := by decide +kernel
theorem dX4_step_22 : decode cX4_step 22 = .ok (.invokevirtual 131, 3) := by decide +kernel
theorem dX4_step_25 : decode cX4_step 25 = .ok (.aload_n 0, 1) := by decide +kernel
theorem dX4_step_26 : decode cX4_step 26 = .ok (.invokevirtual 134, 3) := by decide +kernel
theorem dX4_step_29 : decode cX4_step 29 = .ok (.ifCond .eq 7, 3) := by decide +kernel
theorem dX4_step_32 : decode cX4_step 32 = .ok (.aload_n 0, 1) := by decide +kernel
theorem dX4_step_33 : decode cX4_step 33 = .ok (.invokevirtual 137, 3) := by decide +kernel
theorem dX4_step_36 : decode cX4_step 36 = .ok (.aload_n 0, 1) := by decide +kernel
theorem dX4_step_37 : decode cX4_step 37 = .ok (.invokevirtual 140, 3) := by decide +kernel
theorem dX4_step_40 : decode cX4_step 40 = .ok (.aload_n 0, 1) := by decide +kernel
theorem dX4_step_41 : decode cX4_step 41 = .ok (.getfield 54, 3) := by decide +kernel
theorem dX4_step_44 : decode cX4_step 44 = .ok (.ifCond .ne 5, 3) := by decide +kernel
theorem dX4_step_47 : decode cX4_step 47 = .ok (.iconst 0, 1) := by decide +kernel
theorem dX4_step_48 : decode cX4_step 48 = .ok (.ireturn, 1) := by decide +kernel
theorem dX4_step_49 : decode cX4_step 49 = .ok (.aload_n 0, 1) := by decide +kernel
theorem dX4_step_50 : decode cX4_step 50 = .ok (.invokevirtual 118, 3) := by decide +kernel
theorem dX4_step_53 : decode cX4_step 53 = .ok (.ifCond .eq 7, 3) := by decide +kernel
theorem dX4_step_56 : decode cX4_step 56 = .ok (.iconst 1, 1) := by decide +kernel
theorem dX4_step_57 : decode cX4_step 57 = .ok (.goto 4, 3) := by decide +kernel
theorem dX4_step_60 : decode cX4_step 60 = .ok (.iconst 2, 1) := by decide +kernel
theorem dX4_step_61 : decode cX4_step 61 = .ok (.ireturn, 1) := by decide +kernel
theorem dX4_fail_0 : decode cX4_fail 0 = .ok (.aload_n 0, 1) := by decide +kernel
theorem dX4_fail_1 : decode cX4_fail 1 = .ok (.iload_n 1, 1) := by decide +kernel
theorem dX4_fail_2 : decode cX4_fail 2 = .ok (.invokevirtual 143, 3) := by decide +kernel
theorem dX4_fail_5 : decode cX4_fail 5 = .ok (.ifCond .eq 11, 3) := by decide +kernel
theorem dX4_fail_8 : decode cX4_fail 8 = .ok (.aload_n 0, 1) := by decide +kernel
theorem dX4_fail_9 : decode cX4_fail 9 = .ok (.invokevirtual 147, 3) := by decide +kernel
theorem dX4_fail_12 : decode cX4_fail 12 = .ok (.iconst (-1), 1) := by decide +kernel
theorem dX4_fail_13 : decode cX4_fail 13 = .ok (.if_icmp .eq 5, 3) := by decide +kernel
theorem dX4_fail_16 : decode cX4_fail 16 = .ok (.iconst 0, 1) := by decide +kernel
theorem dX4_fail_17 : decode cX4_fail 17 = .ok (.ireturn, 1) := by decide +kernel
theorem dX4_fail_18 : decode cX4_fail 18 = .ok (.aload_n 0, 1) := by decide +kernel
theorem dX4_fail_19 : decode cX4_fail 19 = .ok (.getfield 40, 3) := by decide +kernel
theorem dX4_fail_22 : decode cX4_fail 22 = .ok (.iload_n 1, 1) := by decide +kernel
theorem dX4_fail_23 : decode cX4_fail 23 = .ok (.aaload, 1) := by decide +kernel
theorem dX4_fail_24 : decode cX4_fail 24 = .ok (.iconst 1, 1) := by decide +kernel
theorem dX4_fail_25 : decode cX4_fail 25 = .ok (.putfield 150, 3) := by decide +kernel
theorem dX4_fail_28 : decode cX4_fail 28 = .ok (.iconst 1, 1) := by decide +kernel
theorem dX4_fail_29 : decode cX4_fail 29 = .ok (.ireturn, 1) := by decide +kernel
theorem dX4_replace_0 : decode cX4_replace 0 = .ok (.aload_n 0, 1) := by decide +kernel
theorem dX4_replace_1 : decode cX4_replace 1 = .ok (.invokevirtual 147, 3) := by decide +kernel
theorem dX4_replace_4 : decode cX4_replace 4 = .ok (.istore_n 1, 1) := by decide +kernel
theorem dX4_replace_5 : decode cX4_replace 5 = .ok (.aload_n 0, 1) := by decide +kernel
theorem dX4_replace_6 : decode cX4_replace 6 = .ok (.getfield 54, 3) := by decide +kernel
theorem dX4_replace_9 : decode cX4_replace 9 = .ok (.ifCond .eq 20, 3) := by decide +kernel
theorem dX4_replace_12 : decode cX4_replace 12 = .ok (.iload_n 1, 1) := by decide +kernel
theorem dX4_replace_13 : decode cX4_replace 13 = .ok (.iconst (-1), 1) := by decide +kernel
theorem dX4_replace_14 : decode cX4_replace 14 = .ok (.if_icmp .eq 15, 3) := by decide +kernel
theorem dX4_replace_17 : decode cX4_replace 17 = .ok (.aload_n 0, 1) := by decide +kernel
theorem dX4_replace_18 : decode cX4_replace 18 = .ok (.getfield 40, 3) := by decide +kernel
theorem dX4_replace_21 : decode cX4_replace 21 = .ok (.iload_n 1, 1) := by decide +kernel
theorem dX4_replace_22 : decode cX4_replace 22 = .ok (.aaload, 1) := by decide +kernel
theorem dX4_replace_23 : decode cX4_replace 23 = .ok (.getfield 150, 3) := by decide +kernel
theorem dX4_replace_26 : decode cX4_replace 26 = .ok (.ifCond .ne 5, 3) := by decide +kernel
theorem dX4_replace_29 : decode cX4_replace 29 = .ok (.iconst 0, 1) := by decide +kernel
theorem dX4_replace_30 : decode cX4_replace 30 = .ok (.ireturn, 1) := by decide +kernel
theorem dX4_replace_31 : decode cX4_replace 31 = .ok (.aload_n 0, 1) := by decide +kernel
theorem dX4_replace_32 : decode cX4_replace 32 = .ok (.iload_n 1, 1) := by decide +kernel
theorem dX4_replace_33 : decode cX4_replace 33 = .ok (.invokevirtual 153, 3) := by decide +kernel
theorem dX4_replace_36 : decode cX4_replace 36 = .ok (.ifCond .ne 19, 3) := by decide +kernel
theorem dX4_replace_39 : decode cX4_replace 39 = .ok (.aload_n 0, 1) := by decide +kernel
theorem dX4_replace_40 : decode cX4_replace 40 = .ok (.getfield 40, 3) := by decide +kernel
theorem dX4_replace_43 : decode cX4_replace 43 = .ok (.iload_n 1, 1) := by decide +kernel
theorem dX4_replace_44 : decode cX4_replace 44 = .ok (.aaload, 1) := by decide +kernel
theorem dX4_replace_45 : decode cX4_replace 45 = .ok (.invokevirtual 156, 3) := by decide +kernel
theorem dX4_replace_48 : decode cX4_replace 48 = .ok (.aload_n 0, 1) := by decide +kernel
theorem dX4_replace_49 : decode cX4_replace 49 = .ok (.iconst 0, 1) := by decide +kernel
theorem dX4_replace_50 : decode cX4_replace 50 = .ok (.putfield 159, 3) := by decide +kernel
theorem dX4_replace_53 : decode cX4_replace 53 = .ok (.iconst 1, 1) := by decide +kernel
theorem dX4_replace_54 : decode cX4_replace 54 = .ok (.ireturn, 1) := by decide +kernel
theorem dX4_replace_55 : decode cX4_replace 55 = .ok (.aload_n 0, 1) := by decide +kernel
theorem dX4_replace_56 : decode cX4_replace 56 = .ok (.invokevirtual 108, 3) := by decide +kernel
theorem dX4_replace_59 : decode cX4_replace 59 = .ok (.ifCond .ne 5, 3) := by decide +kernel
theorem dX4_replace_62 : decode cX4_replace 62 = .ok (.iconst 0, 1) := by decide +kernel
theorem dX4_replace_63 : decode cX4_replace 63 = .ok (.ireturn, 1) := by decide +kernel
theorem dX4_replace_64 : decode cX4_replace 64 = .ok (.aload_n 0, 1) := by decide +kernel
theorem dX4_replace_65 : decode cX4_replace 65 = .ok (.getfield 40, 3) := by decide +kernel
theorem dX4_replace_68 : decode cX4_replace 68 = .ok (.iload_n 1, 1) := by decide +kernel
theorem dX4_replace_69 : decode cX4_replace 69 = .ok (.aaload, 1) := by decide +kernel
theorem dX4_replace_70 : decode cX4_replace 70 = .ok (.invokevirtual 156, 3) := by decide +kernel
theorem dX4_replace_73 : decode cX4_replace 73 = .ok (.aload_n 0, 1) := by decide +kernel
theorem dX4_replace_74 : decode cX4_replace 74 = .ok (.getfield 40, 3) := by decide +kernel
theorem dX4_replace_77 : decode cX4_replace 77 = .ok (.iload_n 1, 1) := by decide +kernel
theorem dX4_replace_78 : decode cX4_replace 78 = .ok (.aaload, 1) := by decide +kernel
theorem dX4_replace_79 : decode cX4_replace 79 = .ok (.aload_n 0, 1) := by decide +kernel
theorem dX4_replace_80 : decode cX4_replace 80 = .ok (.getfield 19, 3) := by decide +kernel
theorem dX4_replace_83 : decode cX4_replace 83 = .ok (.invokevirtual 112, 3) := by decide +kernel
theorem dX4_replace_86 : decode cX4_replace 86 = .ok (.iconst 1, 1) := by decide +kernel
theorem dX4_replace_87 : decode cX4_replace 87 = .ok (.ireturn, 1) := by decide +kernel
theorem dX4_rebuild_0 : decode cX4_rebuild 0 = .ok (.aload_n 0, 1) := by decide +kernel
theorem dX4_rebuild_1 : decode cX4_rebuild 1 = .ok (.invokevirtual 61, 3) := by decide +kernel
theorem dX4_rebuild_4 : decode cX4_rebuild 4 = .ok (.aload_n 0, 1) := by decide +kernel
theorem dX4_rebuild_5 : decode cX4_rebuild 5 = .ok (.invokevirtual 121, 3) := by decide +kernel
theorem dX4_rebuild_8 : decode cX4_rebuild 8 = .ok (.istore_n 1, 1) := by decide +kernel
theorem dX4_rebuild_9 : decode cX4_rebuild 9 = .ok (.iload_n 1, 1) := by decide +kernel
theorem dX4_rebuild_10 : decode cX4_rebuild 10 = .ok (.iconst (-1), 1) := by decide +kernel
theorem dX4_rebuild_11 : decode cX4_rebuild 11 = .ok (.if_icmp .ne 5, 3) := by decide +kernel
theorem dX4_rebuild_14 : decode cX4_rebuild 14 = .ok (.iconst (-1), 1) := by decide +kernel
theorem dX4_rebuild_15 : decode cX4_rebuild 15 = .ok (.ireturn, 1) := by decide +kernel
theorem dX4_rebuild_16 : decode cX4_rebuild 16 = .ok (.aload_n 0, 1) := by decide +kernel
theorem dX4_rebuild_17 : decode cX4_rebuild 17 = .ok (.iload_n 1, 1) := by decide +kernel
theorem dX4_rebuild_18 : decode cX4_rebuild 18 = .ok (.aload_n 0, 1) := by decide +kernel
theorem dX4_rebuild_19 : decode cX4_rebuild 19 = .ok (.getfield 159, 3) := by decide +kernel
theorem dX4_rebuild_22 : decode cX4_rebuild 22 = .ok (.invokevirtual 162, 3) := by decide +kernel
theorem dX4_rebuild_25 : decode cX4_rebuild 25 = .ok (.lstore_n 2, 1) := by decide +kernel
theorem dX4_rebuild_26 : decode cX4_rebuild 26 = .ok (.aload_n 0, 1) := by decide +kernel
theorem dX4_rebuild_27 : decode cX4_rebuild 27 = .ok (.invokevirtual 108, 3) := by decide +kernel
theorem dX4_rebuild_30 : decode cX4_rebuild 30 = .ok (.ifCond .ne 5, 3) := by decide +kernel
theorem dX4_rebuild_33 : decode cX4_rebuild 33 = .ok (.iconst 0, 1) := by decide +kernel
theorem dX4_rebuild_34 : decode cX4_rebuild 34 = .ok (.ireturn, 1) := by decide +kernel
theorem dX4_rebuild_35 : decode cX4_rebuild 35 = .ok (.aload_n 0, 1) := by decide +kernel
theorem dX4_rebuild_36 : decode cX4_rebuild 36 = .ok (.getfield 40, 3) := by decide +kernel
theorem dX4_rebuild_39 : decode cX4_rebuild 39 = .ok (.iload_n 1, 1) := by decide +kernel
theorem dX4_rebuild_40 : decode cX4_rebuild 40 = .ok (.aaload, 1) := by decide +kernel
theorem dX4_rebuild_41 : decode cX4_rebuild 41 = .ok (.aload_n 0, 1) := by decide +kernel
theorem dX4_rebuild_42 : decode cX4_rebuild 42 = .ok (.getfield 159, 3) := by decide +kernel
theorem dX4_rebuild_45 : decode cX4_rebuild 45 = .ok (.lload_n 2, 1) := by decide +kernel
theorem dX4_rebuild_46 : decode cX4_rebuild 46 = .ok (.invokevirtual 166, 3) := by decide +kernel
theorem dX4_rebuild_49 : decode cX4_rebuild 49 = .ok (.aload_n 0, 1) := by decide +kernel
theorem dX4_rebuild_50 : decode cX4_rebuild 50 = .ok (.getfield 159, 3) := by decide +kernel
theorem dX4_rebuild_53 : decode cX4_rebuild 53 = .ok (.iconst 1, 1) := by decide +kernel
theorem dX4_rebuild_54 : decode cX4_rebuild 54 = .ok (.iadd, 1) := by decide +kernel
theorem dX4_rebuild_55 : decode cX4_rebuild 55 = .ok (.aload_n 0, 1) := by decide +kernel
theorem dX4_rebuild_56 : decode cX4_rebuild 56 = .ok (.getfield 13, 3) := by decide +kernel
theorem dX4_rebuild_59 : decode cX4_rebuild 59 = .ok (.if_icmp .ge 15, 3) := by decide +kernel
theorem dX4_rebuild_62 : decode cX4_rebuild 62 = .ok (.aload_n 0, 1) := by decide +kernel
theorem dX4_rebuild_63 : decode cX4_rebuild 63 = .ok (.dup, 1) := by decide +kernel
theorem dX4_rebuild_64 : decode cX4_rebuild 64 = .ok (.getfield 159, 3) := by decide +kernel
theorem dX4_rebuild_67 : decode cX4_rebuild 67 = .ok (.iconst 1, 1) := by decide +kernel
theorem dX4_rebuild_68 : decode cX4_rebuild 68 = .ok (.iadd, 1) := by decide +kernel
theorem dX4_rebuild_69 : decode cX4_rebuild 69 = .ok (.putfield 159, 3) := by decide +kernel
theorem dX4_rebuild_72 : decode cX4_rebuild 72 = .ok (.iconst 1, 1) := by decide +kernel
theorem dX4_rebuild_73 : decode cX4_rebuild 73 = .ok (.ireturn, 1) := by decide +kernel
theorem dX4_rebuild_74 : decode cX4_rebuild 74 = .ok (.aload_n 0, 1) := by decide +kernel
theorem dX4_rebuild_75 : decode cX4_rebuild 75 = .ok (.aload_n 0, 1) := by decide +kernel
theorem dX4_rebuild_76 : decode cX4_rebuild 76 = .ok (.getfield 19, 3) := by decide +kernel
theorem dX4_rebuild_79 : decode cX4_rebuild 79 = .ok (.getfield 125, 3) := by decide +kernel
theorem dX4_rebuild_82 : decode cX4_rebuild 82 = .ok (.aload_n 0, 1) := by decide +kernel
theorem dX4_rebuild_83 : decode cX4_rebuild 83 = .ok (.getfield 19, 3) := by decide +kernel
theorem dX4_rebuild_86 : decode cX4_rebuild 86 = .ok (.getfield 115, 3) := by decide +kernel
theorem dX4_rebuild_89 : decode cX4_rebuild 89 = .ok (.aload_n 0, 1) := by decide +kernel
theorem dX4_rebuild_90 : decode cX4_rebuild 90 = .ok (.getfield 19, 3) := by decide +kernel
theorem dX4_rebuild_93 : decode cX4_rebuild 93 = .ok (.getfield 170, 3) := by decide +kernel
theorem dX4_rebuild_96 : decode cX4_rebuild 96 = .ok (.iload_n 1, 1) := by decide +kernel
theorem dX4_rebuild_97 : decode cX4_rebuild 97 = .ok (.invokevirtual 128, 3) := by decide +kernel
theorem dX4_rebuild_100 : decode cX4_rebuild 100 = .ok (.aload_n 0, 1) := by decide +kernel
theorem dX4_rebuild_101 : decode cX4_rebuild 101 = .ok (.getfield 54, 3) := by decide +kernel
theorem dX4_rebuild_104 : decode cX4_rebuild 104 = .ok (.ifCond .ne 5, 3) := by decide +kernel
theorem dX4_rebuild_107 : decode cX4_rebuild 107 = .ok (.iconst 0, 1) := by decide +kernel
theorem dX4_rebuild_108 : decode cX4_rebuild 108 = .ok (.ireturn, 1) := by decide +kernel
theorem dX4_rebuild_109 : decode cX4_rebuild 109 = .ok (.aload_n 0, 1) := by decide +kernel
theorem dX4_rebuild_110 : decode cX4_rebuild 110 = .ok (.iconst 0, 1) := by decide +kernel
theorem dX4_rebuild_111 : decode cX4_rebuild 111 = .ok (.putfield 159, 3) := by decide +kernel
theorem dX4_rebuild_114 : decode cX4_rebuild 114 = .ok (.iconst 2, 1) := by decide +kernel
theorem dX4_rebuild_115 : decode cX4_rebuild 115 = .ok (.ireturn, 1) := by decide +kernel
theorem dX4_cut_0 : decode cX4_cut 0 = .ok (.aload_n 0, 1) := by decide +kernel
theorem dX4_cut_1 : decode cX4_cut 1 = .ok (.iload_n 1, 1) := by decide +kernel
theorem dX4_cut_2 : decode cX4_cut 2 = .ok (.ifCond .ge 7, 3) := by decide +kernel
theorem dX4_cut_5 : decode cX4_cut 5 = .ok (.iconst (-1), 1) := by decide +kernel
theorem dX4_cut_6 : decode cX4_cut 6 = .ok (.goto 4, 3) := by decide +kernel
theorem dX4_cut_9 : decode cX4_cut 9 = .ok (.iload_n 1, 1) := by decide +kernel
theorem dX4_cut_10 : decode cX4_cut 10 = .ok (.putfield 58, 3) := by decide +kernel
theorem dX4_cut_13 : decode cX4_cut 13 = .ok (.return_, 1) := by decide +kernel
theorem dX4_open_0 : decode cX4_open 0 = .ok (.aload_n 0, 1) := by decide +kernel
theorem dX4_open_1 : decode cX4_open 1 = .ok (.getfield 54, 3) := by decide +kernel
theorem dX4_open_4 : decode cX4_open 4 = .ok (.ifCond .eq 5, 3) := by decide +kernel
theorem dX4_open_7 : decode cX4_open 7 = .ok (.iconst (-1), 1) := by decide +kernel
theorem dX4_open_8 : decode cX4_open 8 = .ok (.ireturn, 1) := by decide +kernel
theorem dX4_open_9 : decode cX4_open 9 = .ok (.aload_n 0, 1) := by decide +kernel
theorem dX4_open_10 : decode cX4_open 10 = .ok (.iconst 1, 1) := by decide +kernel
theorem dX4_open_11 : decode cX4_open 11 = .ok (.putfield 54, 3) := by decide +kernel
theorem dX4_open_14 : decode cX4_open 14 = .ok (.aload_n 0, 1) := by decide +kernel
theorem dX4_open_15 : decode cX4_open 15 = .ok (.invokevirtual 173, 3) := by decide +kernel
theorem dX4_open_18 : decode cX4_open 18 = .ok (.aload_n 0, 1) := by decide +kernel
theorem dX4_open_19 : decode cX4_open 19 = .ok (.invokevirtual 176, 3) := by decide +kernel
theorem dX4_open_22 : decode cX4_open 22 = .ok (.aload_n 0, 1) := by decide +kernel
theorem dX4_open_23 : decode cX4_open 23 = .ok (.getfield 54, 3) := by decide +kernel
theorem dX4_open_26 : decode cX4_open 26 = .ok (.ifCond .eq 14, 3) := by decide +kernel
theorem dX4_open_29 : decode cX4_open 29 = .ok (.aload_n 0, 1) := by decide +kernel
theorem dX4_open_30 : decode cX4_open 30 = .ok (.invokevirtual 179, 3) := by decide +kernel
theorem dX4_open_33 : decode cX4_open 33 = .ok (.ifCond .eq 7, 3) := by decide +kernel
theorem dX4_open_36 : decode cX4_open 36 = .ok (.iconst 1, 1) := by decide +kernel
theorem dX4_open_37 : decode cX4_open 37 = .ok (.goto 4, 3) := by decide +kernel
theorem dX4_open_40 : decode cX4_open 40 = .ok (.iconst 0, 1) := by decide +kernel
theorem dX4_open_41 : decode cX4_open 41 = .ok (.istore_n 1, 1) := by decide +kernel
theorem dX4_open_42 : decode cX4_open 42 = .ok (.aload_n 0, 1) := by decide +kernel
theorem dX4_open_43 : decode cX4_open 43 = .ok (.getfield 54, 3) := by decide +kernel
theorem dX4_open_46 : decode cX4_open 46 = .ok (.ifCond .eq 14, 3) := by decide +kernel
theorem dX4_open_49 : decode cX4_open 49 = .ok (.aload_n 0, 1) := by decide +kernel
theorem dX4_open_50 : decode cX4_open 50 = .ok (.invokevirtual 182, 3) := by decide +kernel
theorem dX4_open_53 : decode cX4_open 53 = .ok (.ifCond .eq 7, 3) := by decide +kernel
theorem dX4_open_56 : decode cX4_open 56 = .ok (.iconst 1, 1) := by decide +kernel
theorem dX4_open_57 : decode cX4_open 57 = .ok (.goto 4, 3) := by decide +kernel
theorem dX4_open_60 : decode cX4_open 60 = .ok (.iconst 0, 1) := by decide +kernel
theorem dX4_open_61 : decode cX4_open 61 = .ok (.istore_n 2, 1) := by decide +kernel
theorem dX4_open_62 : decode cX4_open 62 = .ok (.iload_n 2, 1) := by decide +kernel
theorem dX4_open_63 : decode cX4_open 63 = .ok (.ifCond .ne 29, 3) := by decide +kernel
theorem dX4_open_66 : decode cX4_open 66 = .ok (.aload_n 0, 1) := by decide +kernel
theorem dX4_open_67 : decode cX4_open 67 = .ok (.aload_n 0, 1) := by decide +kernel
theorem dX4_open_68 : decode cX4_open 68 = .ok (.getfield 19, 3) := by decide +kernel
theorem dX4_open_71 : decode cX4_open 71 = .ok (.getfield 125, 3) := by decide +kernel
theorem dX4_open_74 : decode cX4_open 74 = .ok (.aload_n 0, 1) := by decide +kernel
theorem dX4_open_75 : decode cX4_open 75 = .ok (.getfield 19, 3) := by decide +kernel
theorem dX4_open_78 : decode cX4_open 78 = .ok (.getfield 115, 3) := by decide +kernel
theorem dX4_open_81 : decode cX4_open 81 = .ok (.aload_n 0, 1) := by decide +kernel
theorem dX4_open_82 : decode cX4_open 82 = .ok (.getfield 19, 3) := by decide +kernel
theorem dX4_open_85 : decode cX4_open 85 = .ok (.getfield 170, 3) := by decide +kernel
theorem dX4_open_88 : decode cX4_open 88 = .ok (.iconst (-1), 1) := by decide +kernel
theorem dX4_open_89 : decode cX4_open 89 = .ok (.invokevirtual 128, 3) := by decide +kernel
theorem dX4_open_92 : decode cX4_open 92 = .ok (.aload_n 0, 1) := by decide +kernel
theorem dX4_open_93 : decode cX4_open 93 = .ok (.getfield 54, 3) := by decide +kernel
theorem dX4_open_96 : decode cX4_open 96 = .ok (.ifCond .ne 5, 3) := by decide +kernel
theorem dX4_open_99 : decode cX4_open 99 = .ok (.iconst 0, 1) := by decide +kernel
theorem dX4_open_100 : decode cX4_open 100 = .ok (.ireturn, 1) := by decide +kernel
theorem dX4_open_101 : decode cX4_open 101 = .ok (.iconst 1, 1) := by decide +kernel
theorem dX4_open_102 : decode cX4_open 102 = .ok (.iload_n 1, 1) := by decide +kernel
theorem dX4_open_103 : decode cX4_open 103 = .ok (.ifCond .eq 7, 3) := by decide +kernel
theorem dX4_open_106 : decode cX4_open 106 = .ok (.iconst 2, 1) := by decide +kernel
theorem dX4_open_107 : decode cX4_open 107 = .ok (.goto 4, 3) := by decide +kernel
theorem dX4_open_110 : decode cX4_open 110 = .ok (.iconst 0, 1) := by decide +kernel
theorem dX4_open_111 : decode cX4_open 111 = .ok (.iadd, 1) := by decide +kernel
theorem dX4_open_112 : decode cX4_open 112 = .ok (.iload_n 2, 1) := by decide +kernel
theorem dX4_open_113 : decode cX4_open 113 = .ok (.ifCond .eq 7, 3) := by decide +kernel
theorem dX4_open_116 : decode cX4_open 116 = .ok (.iconst 4, 1) := by decide +kernel
theorem dX4_open_117 : decode cX4_open 117 = .ok (.goto 4, 3) := by decide +kernel
theorem dX4_open_120 : decode cX4_open 120 = .ok (.iconst 0, 1) := by decide +kernel
theorem dX4_open_121 : decode cX4_open 121 = .ok (.iadd, 1) := by decide +kernel
theorem dX4_open_122 : decode cX4_open 122 = .ok (.ireturn, 1) := by decide +kernel
theorem dX4_place_0 : decode cX4_place 0 = .ok (.aload_n 0, 1) := by decide +kernel
theorem dX4_place_1 : decode cX4_place 1 = .ok (.iload_n 1, 1) := by decide +kernel
theorem dX4_place_2 : decode cX4_place 2 = .ok (.invokevirtual 185, 3) := by decide +kernel
theorem dX4_place_5 : decode cX4_place 5 = .ok (.ifCond .ne 5, 3) := by decide +kernel
theorem dX4_place_8 : decode cX4_place 8 = .ok (.iconst (-1), 1) := by decide +kernel
theorem dX4_place_9 : decode cX4_place 9 = .ok (.ireturn, 1) := by decide +kernel
theorem dX4_place_10 : decode cX4_place 10 = .ok (.aload_n 0, 1) := by decide +kernel
theorem dX4_place_11 : decode cX4_place 11 = .ok (.iload_n 1, 1) := by decide +kernel
theorem dX4_place_12 : decode cX4_place 12 = .ok (.invokevirtual 67, 3) := by decide +kernel
theorem dX4_place_15 : decode cX4_place 15 = .ok (.istore_n 3, 1) := by decide +kernel
theorem dX4_place_16 : decode cX4_place 16 = .ok (.iload_n 2, 1) := by decide +kernel
theorem dX4_place_17 : decode cX4_place 17 = .ok (.tableswitch 67 0 3 #[31, 37, 43, 53], 31) := by decide +kernel
theorem dX4_place_48 : decode cX4_place 48 = .ok (.iload_n 3, 1) := by decide +kernel
theorem dX4_place_49 : decode cX4_place 49 = .ok (.iload_n 1, 1) := by decide +kernel
theorem dX4_place_50 : decode cX4_place 50 = .ok (.invokestatic 75, 3) := by decide +kernel
theorem dX4_place_53 : decode cX4_place 53 = .ok (.ireturn, 1) := by decide +kernel
theorem dX4_place_54 : decode cX4_place 54 = .ok (.iload_n 3, 1) := by decide +kernel
theorem dX4_place_55 : decode cX4_place 55 = .ok (.iload_n 1, 1) := by decide +kernel
theorem dX4_place_56 : decode cX4_place 56 = .ok (.invokestatic 71, 3) := by decide +kernel
theorem dX4_place_59 : decode cX4_place 59 = .ok (.ireturn, 1) := by decide +kernel
theorem dX4_place_60 : decode cX4_place 60 = .ok (.iload_n 3, 1) := by decide +kernel
theorem dX4_place_61 : decode cX4_place 61 = .ok (.iload_n 3, 1) := by decide +kernel
theorem dX4_place_62 : decode cX4_place 62 = .ok (.iload_n 1, 1) := by decide +kernel
theorem dX4_place_63 : decode cX4_place 63 = .ok (.invokestatic 71, 3) := by decide +kernel
theorem dX4_place_66 : decode cX4_place 66 = .ok (.invokestatic 84, 3) := by decide +kernel
theorem dX4_place_69 : decode cX4_place 69 = .ok (.ireturn, 1) := by decide +kernel
theorem dX4_place_70 : decode cX4_place 70 = .ok (.aload_n 0, 1) := by decide +kernel
theorem dX4_place_71 : decode cX4_place 71 = .ok (.iload_n 1, 1) := by decide +kernel
theorem dX4_place_72 : decode cX4_place 72 = .ok (.invokevirtual 188, 3) := by decide +kernel
theorem dX4_place_75 : decode cX4_place 75 = .ok (.ifCond .eq 7, 3) := by decide +kernel
theorem dX4_place_78 : decode cX4_place 78 = .ok (.iconst 1, 1) := by decide +kernel
theorem dX4_place_79 : decode cX4_place 79 = .ok (.goto 4, 3) := by decide +kernel
theorem dX4_place_82 : decode cX4_place 82 = .ok (.iconst 0, 1) := by decide +kernel
theorem dX4_place_83 : decode cX4_place 83 = .ok (.ireturn, 1) := by decide +kernel
theorem dX4_place_84 : decode cX4_place 84 = .ok (.iconst (-1), 1) := by decide +kernel
theorem dX4_place_85 : decode cX4_place 85 = .ok (.ireturn, 1) := by decide +kernel
theorem dX4_disk_0 : decode cX4_disk 0 = .ok (.aload_n 0, 1) := by decide +kernel
theorem dX4_disk_1 : decode cX4_disk 1 = .ok (.iload_n 1, 1) := by decide +kernel
theorem dX4_disk_2 : decode cX4_disk 2 = .ok (.invokevirtual 143, 3) := by decide +kernel
theorem dX4_disk_5 : decode cX4_disk 5 = .ok (.ifCond .ne 5, 3) := by decide +kernel
theorem dX4_disk_8 : decode cX4_disk 8 = .ok (.iconst (-1), 1) := by decide +kernel
theorem dX4_disk_9 : decode cX4_disk 9 = .ok (.ireturn, 1) := by decide +kernel
theorem dX4_disk_10 : decode cX4_disk 10 = .ok (.aload_n 0, 1) := by decide +kernel
theorem dX4_disk_11 : decode cX4_disk 11 = .ok (.getfield 40, 3) := by decide +kernel
theorem dX4_disk_14 : decode cX4_disk 14 = .ok (.iload_n 1, 1) := by decide +kernel
theorem dX4_disk_15 : decode cX4_disk 15 = .ok (.aaload, 1) := by decide +kernel
theorem dX4_disk_16 : decode cX4_disk 16 = .ok (.astore_n 3, 1) := by decide +kernel
theorem dX4_disk_17 : decode cX4_disk 17 = .ok (.iload_n 2, 1) := by decide +kernel
theorem dX4_disk_18 : decode cX4_disk 18 = .ok (.tableswitch 127 0 5 #[38, 43, 57, 62, 81, 100], 38) := by decide +kernel
theorem dX4_disk_56 : decode cX4_disk 56 = .ok (.aload_n 3, 1) := by decide +kernel
theorem dX4_disk_57 : decode cX4_disk 57 = .ok (.invokevirtual 191, 3) := by decide +kernel
theorem dX4_disk_60 : decode cX4_disk 60 = .ok (.ireturn, 1) := by decide +kernel
theorem dX4_disk_61 : decode cX4_disk 61 = .ok (.aload_n 0, 1) := by decide +kernel
theorem dX4_disk_62 : decode cX4_disk 62 = .ok (.iload_n 1, 1) := by decide +kernel
theorem dX4_disk_63 : decode cX4_disk 63 = .ok (.invokevirtual 153, 3) := by decide +kernel
theorem dX4_disk_66 : decode cX4_disk 66 = .ok (.ifCond .eq 7, 3) := by decide +kernel
theorem dX4_disk_69 : decode cX4_disk 69 = .ok (.iconst 1, 1) := by decide +kernel
theorem dX4_disk_70 : decode cX4_disk 70 = .ok (.goto 4, 3) := by decide +kernel
theorem dX4_disk_73 : decode cX4_disk 73 = .ok (.iconst 0, 1) := by decide +kernel
theorem dX4_disk_74 : decode cX4_disk 74 = .ok (.ireturn, 1) := by decide +kernel
theorem dX4_disk_75 : decode cX4_disk 75 = .ok (.aload_n 3, 1) := by decide +kernel
theorem dX4_disk_76 : decode cX4_disk 76 = .ok (.getfield 194, 3) := by decide +kernel
theorem dX4_disk_79 : decode cX4_disk 79 = .ok (.ireturn, 1) := by decide +kernel
theorem dX4_disk_80 : decode cX4_disk 80 = .ok (.aload_n 3, 1) := by decide +kernel
theorem dX4_disk_81 : decode cX4_disk 81 = .ok (.getfield 150, 3) := by decide +kernel
theorem dX4_disk_84 : decode cX4_disk 84 = .ok (.ifCond .eq 7, 3) := by decide +kernel
theorem dX4_disk_87 : decode cX4_disk 87 = .ok (.iconst (-1), 1) := by decide +kernel
theorem dX4_disk_88 : decode cX4_disk 88 = .ok (.goto 10, 3) := by decide +kernel
theorem dX4_disk_91 : decode cX4_disk 91 = .ok (.aload_n 3, 1) := by decide +kernel
theorem dX4_disk_92 : decode cX4_disk 92 = .ok (.getfield 47, 3) := by decide +kernel
theorem dX4_disk_95 : decode cX4_disk 95 = .ok (.getfield 81, 3) := by decide +kernel
theorem dX4_disk_98 : decode cX4_disk 98 = .ok (.ireturn, 1) := by decide +kernel
theorem dX4_disk_99 : decode cX4_disk 99 = .ok (.aload_n 3, 1) := by decide +kernel
theorem dX4_disk_100 : decode cX4_disk 100 = .ok (.getfield 150, 3) := by decide +kernel
theorem dX4_disk_103 : decode cX4_disk 103 = .ok (.ifCond .eq 7, 3) := by decide +kernel
theorem dX4_disk_106 : decode cX4_disk 106 = .ok (.iconst (-1), 1) := by decide +kernel
theorem dX4_disk_107 : decode cX4_disk 107 = .ok (.goto 10, 3) := by decide +kernel
theorem dX4_disk_110 : decode cX4_disk 110 = .ok (.aload_n 3, 1) := by decide +kernel
theorem dX4_disk_111 : decode cX4_disk 111 = .ok (.getfield 197, 3) := by decide +kernel
theorem dX4_disk_114 : decode cX4_disk 114 = .ok (.getfield 200, 3) := by decide +kernel
theorem dX4_disk_117 : decode cX4_disk 117 = .ok (.ireturn, 1) := by decide +kernel
theorem dX4_disk_118 : decode cX4_disk 118 = .ok (.aload_n 3, 1) := by decide +kernel
theorem dX4_disk_119 : decode cX4_disk 119 = .ok (.getfield 150, 3) := by decide +kernel
theorem dX4_disk_122 : decode cX4_disk 122 = .ok (.ifCond .eq 7, 3) := by decide +kernel
theorem dX4_disk_125 : decode cX4_disk 125 = .ok (.iconst (-1), 1) := by decide +kernel
theorem dX4_disk_126 : decode cX4_disk 126 = .ok (.goto 18, 3) := by decide +kernel
theorem dX4_disk_129 : decode cX4_disk 129 = .ok (.aload_n 3, 1) := by decide +kernel
theorem dX4_disk_130 : decode cX4_disk 130 = .ok (.getfield 203, 3) := by decide +kernel
theorem dX4_disk_133 : decode cX4_disk 133 = .ok (.invokevirtual 207, 3) := by decide +kernel
theorem dX4_disk_136 : decode cX4_disk 136 = .ok (.ifCond .eq 7, 3) := by decide +kernel
theorem dX4_disk_139 : decode cX4_disk 139 = .ok (.iconst 0, 1) := by decide +kernel
theorem dX4_disk_140 : decode cX4_disk 140 = .ok (.goto 4, 3) := by decide +kernel
theorem dX4_disk_143 : decode cX4_disk 143 = .ok (.iconst 1, 1) := by decide +kernel
theorem dX4_disk_144 : decode cX4_disk 144 = .ok (.ireturn, 1) := by decide +kernel
theorem dX4_disk_145 : decode cX4_disk 145 = .ok (.iconst (-1), 1) := by decide +kernel
theorem dX4_disk_146 : decode cX4_disk 146 = .ok (.ireturn, 1) := by decide +kernel
theorem dX4_count_0 : decode cX4_count 0 = .ok (.iload_n 1, 1) := by decide +kernel
theorem dX4_count_1 : decode cX4_count 1 = .ok (.tableswitch 178 0 14 #[75, 80, 88, 96, 104, 109, 122, 135, 140, 145, 153, 158, 163, 168, 173], 75) := by decide +kernel
theorem dX4_count_76 : decode cX4_count 76 = .ok (.aload_n 0, 1) := by decide +kernel
theorem dX4_count_77 : decode cX4_count 77 = .ok (.getfield 7, 3) := by decide +kernel
theorem dX4_count_80 : decode cX4_count 80 = .ok (.ireturn, 1) := by decide +kernel
theorem dX4_count_81 : decode cX4_count 81 = .ok (.aload_n 0, 1) := by decide +kernel
theorem dX4_count_82 : decode cX4_count 82 = .ok (.getfield 19, 3) := by decide +kernel
theorem dX4_count_85 : decode cX4_count 85 = .ok (.getfield 125, 3) := by decide +kernel
theorem dX4_count_88 : decode cX4_count 88 = .ok (.ireturn, 1) := by decide +kernel
theorem dX4_count_89 : decode cX4_count 89 = .ok (.aload_n 0, 1) := by decide +kernel
theorem dX4_count_90 : decode cX4_count 90 = .ok (.getfield 19, 3) := by decide +kernel
theorem dX4_count_93 : decode cX4_count 93 = .ok (.getfield 115, 3) := by decide +kernel
theorem dX4_count_96 : decode cX4_count 96 = .ok (.ireturn, 1) := by decide +kernel
theorem dX4_count_97 : decode cX4_count 97 = .ok (.aload_n 0, 1) := by decide +kernel
theorem dX4_count_98 : decode cX4_count 98 = .ok (.getfield 19, 3) := by decide +kernel
theorem dX4_count_101 : decode cX4_count 101 = .ok (.getfield 170, 3) := by decide +kernel
theorem dX4_count_104 : decode cX4_count 104 = .ok (.ireturn, 1) := by decide +kernel
theorem dX4_count_105 : decode cX4_count 105 = .ok (.aload_n 0, 1) := by decide +kernel
theorem dX4_count_106 : decode cX4_count 106 = .ok (.invokevirtual 212, 3) := by decide +kernel
theorem dX4_count_109 : decode cX4_count 109 = .ok (.ireturn, 1) := by decide +kernel
theorem dX4_count_110 : decode cX4_count 110 = .ok (.aload_n 0, 1) := by decide +kernel
theorem dX4_count_111 : decode cX4_count 111 = .ok (.getfield 54, 3) := by decide +kernel
theorem dX4_count_114 : decode cX4_count 114 = .ok (.ifCond .eq 7, 3) := by decide +kernel
theorem dX4_count_117 : decode cX4_count 117 = .ok (.iconst 1, 1) := by decide +kernel
theorem dX4_count_118 : decode cX4_count 118 = .ok (.goto 4, 3) := by decide +kernel
theorem dX4_count_121 : decode cX4_count 121 = .ok (.iconst 0, 1) := by decide +kernel
theorem dX4_count_122 : decode cX4_count 122 = .ok (.ireturn, 1) := by decide +kernel
theorem dX4_count_123 : decode cX4_count 123 = .ok (.aload_n 0, 1) := by decide +kernel
theorem dX4_count_124 : decode cX4_count 124 = .ok (.invokevirtual 118, 3) := by decide +kernel
theorem dX4_count_127 : decode cX4_count 127 = .ok (.ifCond .eq 7, 3) := by decide +kernel
theorem dX4_count_130 : decode cX4_count 130 = .ok (.iconst 1, 1) := by decide +kernel
theorem dX4_count_131 : decode cX4_count 131 = .ok (.goto 4, 3) := by decide +kernel
theorem dX4_count_134 : decode cX4_count 134 = .ok (.iconst 0, 1) := by decide +kernel
theorem dX4_count_135 : decode cX4_count 135 = .ok (.ireturn, 1) := by decide +kernel
theorem dX4_count_136 : decode cX4_count 136 = .ok (.aload_n 0, 1) := by decide +kernel
theorem dX4_count_137 : decode cX4_count 137 = .ok (.invokevirtual 147, 3) := by decide +kernel
theorem dX4_count_140 : decode cX4_count 140 = .ok (.ireturn, 1) := by decide +kernel
theorem dX4_count_141 : decode cX4_count 141 = .ok (.aload_n 0, 1) := by decide +kernel
theorem dX4_count_142 : decode cX4_count 142 = .ok (.getfield 159, 3) := by decide +kernel
theorem dX4_count_145 : decode cX4_count 145 = .ok (.ireturn, 1) := by decide +kernel
theorem dX4_count_146 : decode cX4_count 146 = .ok (.aload_n 0, 1) := by decide +kernel
theorem dX4_count_147 : decode cX4_count 147 = .ok (.getfield 19, 3) := by decide +kernel
theorem dX4_count_150 : decode cX4_count 150 = .ok (.getfield 81, 3) := by decide +kernel
theorem dX4_count_153 : decode cX4_count 153 = .ok (.ireturn, 1) := by decide +kernel
theorem dX4_count_154 : decode cX4_count 154 = .ok (.aload_n 0, 1) := by decide +kernel
theorem dX4_count_155 : decode cX4_count 155 = .ok (.getfield 78, 3) := by decide +kernel
theorem dX4_count_158 : decode cX4_count 158 = .ok (.ireturn, 1) := by decide +kernel
theorem dX4_count_159 : decode cX4_count 159 = .ok (.aload_n 0, 1) := by decide +kernel
theorem dX4_count_160 : decode cX4_count 160 = .ok (.getfield 215, 3) := by decide +kernel
theorem dX4_count_163 : decode cX4_count 163 = .ok (.ireturn, 1) := by decide +kernel
theorem dX4_count_164 : decode cX4_count 164 = .ok (.aload_n 0, 1) := by decide +kernel
theorem dX4_count_165 : decode cX4_count 165 = .ok (.getfield 218, 3) := by decide +kernel
