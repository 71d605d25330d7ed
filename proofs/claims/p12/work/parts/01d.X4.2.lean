theorem dX4_gatherRowValues_43 : decode cX4_gatherRowValues 43 = .ok (.getfield 34, 3) := by decide +kernel
theorem dX4_gatherRowValues_46 : decode cX4_gatherRowValues 46 = .ok (.iload_n 2, 1) := by decide +kernel
theorem dX4_gatherRowValues_47 : decode cX4_gatherRowValues 47 = .ok (.aload_n 0, 1) := by decide +kernel
theorem dX4_gatherRowValues_48 : decode cX4_gatherRowValues 48 = .ok (.iload_n 1, 1) := by decide +kernel
theorem dX4_gatherRowValues_49 : decode cX4_gatherRowValues 49 = .ok (.iload_n 2, 1) := by decide +kernel
theorem dX4_gatherRowValues_50 : decode cX4_gatherRowValues 50 = .ok (.iadd, 1) := by decide +kernel
theorem dX4_gatherRowValues_51 : decode cX4_gatherRowValues 51 = .ok (.invokevirtual 185, 3) := by decide +kernel
theorem dX4_gatherRowValues_54 : decode cX4_gatherRowValues 54 = .ok (.ifCond .eq 13, 3) := by decide +kernel
theorem dX4_gatherRowValues_57 : decode cX4_gatherRowValues 57 = .ok (.aload_n 0, 1) := by decide +kernel
theorem dX4_gatherRowValues_58 : decode cX4_gatherRowValues 58 = .ok (.iload_n 1, 1) := by decide +kernel
theorem dX4_gatherRowValues_59 : decode cX4_gatherRowValues 59 = .ok (.iload_n 2, 1) := by decide +kernel
theorem dX4_gatherRowValues_60 : decode cX4_gatherRowValues 60 = .ok (.iadd, 1) := by decide +kernel
theorem dX4_gatherRowValues_61 : decode cX4_gatherRowValues 61 = .ok (.invokevirtual 104, 3) := by decide +kernel
theorem dX4_gatherRowValues_64 : decode cX4_gatherRowValues 64 = .ok (.goto 4, 3) := by decide +kernel
theorem dX4_gatherRowValues_67 : decode cX4_gatherRowValues 67 = .ok (.lconst 0, 1) := by decide +kernel
theorem dX4_gatherRowValues_68 : decode cX4_gatherRowValues 68 = .ok (.lastore, 1) := by decide +kernel
theorem dX4_gatherRowValues_69 : decode cX4_gatherRowValues 69 = .ok (.iinc 2 1, 3) := by decide +kernel
theorem dX4_gatherRowValues_72 : decode cX4_gatherRowValues 72 = .ok (.goto (-52), 3) := by decide +kernel
theorem dX4_gatherRowValues_75 : decode cX4_gatherRowValues 75 = .ok (.return_, 1) := by decide +kernel
theorem dX4_writeBackups_0 : decode cX4_writeBackups 0 = .ok (.iconst 0, 1) := by decide +kernel
theorem dX4_writeBackups_1 : decode cX4_writeBackups 1 = .ok (.istore_n 1, 1) := by decide +kernel
theorem dX4_writeBackups_2 : decode cX4_writeBackups 2 = .ok (.iload_n 1, 1) := by decide +kernel
theorem dX4_writeBackups_3 : decode cX4_writeBackups 3 = .ok (.aload_n 0, 1) := by decide +kernel
theorem dX4_writeBackups_4 : decode cX4_writeBackups 4 = .ok (.getfield 7, 3) := by decide +kernel
theorem dX4_writeBackups_7 : decode cX4_writeBackups 7 = .ok (.if_icmp .ge 44, 3) := by decide +kernel
theorem dX4_writeBackups_10 : decode cX4_writeBackups 10 = .ok (.aload_n 0, 1) := by decide +kernel
theorem dX4_writeBackups_11 : decode cX4_writeBackups 11 = .ok (.iload_n 1, 1) := by decide +kernel
theorem dX4_writeBackups_12 : decode cX4_writeBackups 12 = .ok (.invokevirtual 257, 3) := by decide +kernel
theorem dX4_writeBackups_15 : decode cX4_writeBackups 15 = .ok (.ifCond .eq 30, 3) := by decide +kernel
theorem dX4_writeBackups_18 : decode cX4_writeBackups 18 = .ok (.aload_n 0, 1) := by decide +kernel
theorem dX4_writeBackups_19 : decode cX4_writeBackups 19 = .ok (.invokevirtual 108, 3) := by decide +kernel
theorem dX4_writeBackups_22 : decode cX4_writeBackups 22 = .ok (.ifCond .eq 23, 3) := by decide +kernel
theorem dX4_writeBackups_25 : decode cX4_writeBackups 25 = .ok (.aload_n 0, 1) := by decide +kernel
theorem dX4_writeBackups_26 : decode cX4_writeBackups 26 = .ok (.getfield 40, 3) := by decide +kernel
theorem dX4_writeBackups_29 : decode cX4_writeBackups 29 = .ok (.iload_n 1, 1) := by decide +kernel
theorem dX4_writeBackups_30 : decode cX4_writeBackups 30 = .ok (.aaload, 1) := by decide +kernel
theorem dX4_writeBackups_31 : decode cX4_writeBackups 31 = .ok (.aload_n 0, 1) := by decide +kernel
theorem dX4_writeBackups_32 : decode cX4_writeBackups 32 = .ok (.getfield 19, 3) := by decide +kernel
theorem dX4_writeBackups_35 : decode cX4_writeBackups 35 = .ok (.getfield 81, 3) := by decide +kernel
theorem dX4_writeBackups_38 : decode cX4_writeBackups 38 = .ok (.aload_n 0, 1) := by decide +kernel
theorem dX4_writeBackups_39 : decode cX4_writeBackups 39 = .ok (.getfield 34, 3) := by decide +kernel
theorem dX4_writeBackups_42 : decode cX4_writeBackups 42 = .ok (.invokevirtual 284, 3) := by decide +kernel
theorem dX4_writeBackups_45 : decode cX4_writeBackups 45 = .ok (.iinc 1 1, 3) := by decide +kernel
theorem dX4_writeBackups_48 : decode cX4_writeBackups 48 = .ok (.goto (-46), 3) := by decide +kernel
theorem dX4_writeBackups_51 : decode cX4_writeBackups 51 = .ok (.return_, 1) := by decide +kernel
theorem dX4_moveRow_0 : decode cX4_moveRow 0 = .ok (.aload_n 0, 1) := by decide +kernel
theorem dX4_moveRow_1 : decode cX4_moveRow 1 = .ok (.getfield 19, 3) := by decide +kernel
theorem dX4_moveRow_4 : decode cX4_moveRow 4 = .ok (.getfield 170, 3) := by decide +kernel
theorem dX4_moveRow_7 : decode cX4_moveRow 7 = .ok (.istore_n 1, 1) := by decide +kernel
theorem dX4_moveRow_8 : decode cX4_moveRow 8 = .ok (.aload_n 0, 1) := by decide +kernel
theorem dX4_moveRow_9 : decode cX4_moveRow 9 = .ok (.getfield 19, 3) := by decide +kernel
theorem dX4_moveRow_12 : decode cX4_moveRow 12 = .ok (.getfield 115, 3) := by decide +kernel
theorem dX4_moveRow_15 : decode cX4_moveRow 15 = .ok (.istore_n 2, 1) := by decide +kernel
theorem dX4_moveRow_16 : decode cX4_moveRow 16 = .ok (.aload_n 0, 1) := by decide +kernel
theorem dX4_moveRow_17 : decode cX4_moveRow 17 = .ok (.iload_n 1, 1) := by decide +kernel
theorem dX4_moveRow_18 : decode cX4_moveRow 18 = .ok (.iload_n 2, 1) := by decide +kernel
theorem dX4_moveRow_19 : decode cX4_moveRow 19 = .ok (.invokevirtual 288, 3) := by decide +kernel
theorem dX4_moveRow_22 : decode cX4_moveRow 22 = .ok (.iload_n 1, 1) := by decide +kernel
theorem dX4_moveRow_23 : decode cX4_moveRow 23 = .ok (.iconst 1, 1) := by decide +kernel
theorem dX4_moveRow_24 : decode cX4_moveRow 24 = .ok (.iadd, 1) := by decide +kernel
theorem dX4_moveRow_25 : decode cX4_moveRow 25 = .ok (.aload_n 0, 1) := by decide +kernel
theorem dX4_moveRow_26 : decode cX4_moveRow 26 = .ok (.getfield 13, 3) := by decide +kernel
theorem dX4_moveRow_29 : decode cX4_moveRow 29 = .ok (.if_icmp .ge 22, 3) := by decide +kernel
theorem dX4_moveRow_32 : decode cX4_moveRow 32 = .ok (.aload_n 0, 1) := by decide +kernel
theorem dX4_moveRow_33 : decode cX4_moveRow 33 = .ok (.aload_n 0, 1) := by decide +kernel
theorem dX4_moveRow_34 : decode cX4_moveRow 34 = .ok (.getfield 19, 3) := by decide +kernel
theorem dX4_moveRow_37 : decode cX4_moveRow 37 = .ok (.getfield 125, 3) := by decide +kernel
theorem dX4_moveRow_40 : decode cX4_moveRow 40 = .ok (.iload_n 2, 1) := by decide +kernel
theorem dX4_moveRow_41 : decode cX4_moveRow 41 = .ok (.iload_n 1, 1) := by decide +kernel
theorem dX4_moveRow_42 : decode cX4_moveRow 42 = .ok (.iconst 1, 1) := by decide +kernel
theorem dX4_moveRow_43 : decode cX4_moveRow 43 = .ok (.iadd, 1) := by decide +kernel
theorem dX4_moveRow_44 : decode cX4_moveRow 44 = .ok (.iconst (-1), 1) := by decide +kernel
theorem dX4_moveRow_45 : decode cX4_moveRow 45 = .ok (.invokevirtual 128, 3) := by decide +kernel
theorem dX4_moveRow_48 : decode cX4_moveRow 48 = .ok (.goto 11, 3) := by decide +kernel
theorem dX4_moveRow_51 : decode cX4_moveRow 51 = .ok (.aload_n 0, 1) := by decide +kernel
theorem dX4_moveRow_52 : decode cX4_moveRow 52 = .ok (.iload_n 2, 1) := by decide +kernel
theorem dX4_moveRow_53 : decode cX4_moveRow 53 = .ok (.iload_n 2, 1) := by decide +kernel
theorem dX4_moveRow_54 : decode cX4_moveRow 54 = .ok (.iconst 0, 1) := by decide +kernel
theorem dX4_moveRow_55 : decode cX4_moveRow 55 = .ok (.iconst (-1), 1) := by decide +kernel
theorem dX4_moveRow_56 : decode cX4_moveRow 56 = .ok (.invokevirtual 128, 3) := by decide +kernel
theorem dX4_moveRow_59 : decode cX4_moveRow 59 = .ok (.aload_n 0, 1) := by decide +kernel
theorem dX4_moveRow_60 : decode cX4_moveRow 60 = .ok (.getfield 54, 3) := by decide +kernel
theorem dX4_moveRow_63 : decode cX4_moveRow 63 = .ok (.ifCond .eq 13, 3) := by decide +kernel
theorem dX4_moveRow_66 : decode cX4_moveRow 66 = .ok (.aload_n 0, 1) := by decide +kernel
theorem dX4_moveRow_67 : decode cX4_moveRow 67 = .ok (.dup, 1) := by decide +kernel
theorem dX4_moveRow_68 : decode cX4_moveRow 68 = .ok (.getfield 218, 3) := by decide +kernel
theorem dX4_moveRow_71 : decode cX4_moveRow 71 = .ok (.iconst 1, 1) := by decide +kernel
theorem dX4_moveRow_72 : decode cX4_moveRow 72 = .ok (.iadd, 1) := by decide +kernel
theorem dX4_moveRow_73 : decode cX4_moveRow 73 = .ok (.putfield 218, 3) := by decide +kernel
theorem dX4_moveRow_76 : decode cX4_moveRow 76 = .ok (.return_, 1) := by decide +kernel
theorem dX4_writeMovedRow_0 : decode cX4_writeMovedRow 0 = .ok (.iload_n 2, 1) := by decide +kernel
theorem dX4_writeMovedRow_1 : decode cX4_writeMovedRow 1 = .ok (.iload_n 1, 1) := by decide +kernel
theorem dX4_writeMovedRow_2 : decode cX4_writeMovedRow 2 = .ok (.invokestatic 84, 3) := by decide +kernel
theorem dX4_writeMovedRow_5 : decode cX4_writeMovedRow 5 = .ok (.istore_n 3, 1) := by decide +kernel
theorem dX4_writeMovedRow_6 : decode cX4_writeMovedRow 6 = .ok (.lconst 0, 1) := by decide +kernel
theorem dX4_writeMovedRow_7 : decode cX4_writeMovedRow 7 = .ok (.lstore 4, 2) := by decide +kernel
theorem dX4_writeMovedRow_9 : decode cX4_writeMovedRow 9 = .ok (.iconst 0, 1) := by decide +kernel
theorem dX4_writeMovedRow_10 : decode cX4_writeMovedRow 10 = .ok (.istore 6, 2) := by decide +kernel
theorem dX4_writeMovedRow_12 : decode cX4_writeMovedRow 12 = .ok (.iload 6, 2) := by decide +kernel
theorem dX4_writeMovedRow_14 : decode cX4_writeMovedRow 14 = .ok (.iload_n 2, 1) := by decide +kernel
theorem dX4_writeMovedRow_15 : decode cX4_writeMovedRow 15 = .ok (.iconst 1, 1) := by decide +kernel
theorem dX4_writeMovedRow_16 : decode cX4_writeMovedRow 16 = .ok (.isub, 1) := by decide +kernel
theorem dX4_writeMovedRow_17 : decode cX4_writeMovedRow 17 = .ok (.if_icmp .ge 31, 3) := by decide +kernel
theorem dX4_writeMovedRow_20 : decode cX4_writeMovedRow 20 = .ok (.iload 6, 2) := by decide +kernel
theorem dX4_writeMovedRow_22 : decode cX4_writeMovedRow 22 = .ok (.aload_n 0, 1) := by decide +kernel
theorem dX4_writeMovedRow_23 : decode cX4_writeMovedRow 23 = .ok (.getfield 34, 3) := by decide +kernel
theorem dX4_writeMovedRow_26 : decode cX4_writeMovedRow 26 = .ok (.arraylength, 1) := by decide +kernel
theorem dX4_writeMovedRow_27 : decode cX4_writeMovedRow 27 = .ok (.if_icmp .ge 21, 3) := by decide +kernel
theorem dX4_writeMovedRow_30 : decode cX4_writeMovedRow 30 = .ok (.lload 4, 2) := by decide +kernel
theorem dX4_writeMovedRow_32 : decode cX4_writeMovedRow 32 = .ok (.aload_n 0, 1) := by decide +kernel
theorem dX4_writeMovedRow_33 : decode cX4_writeMovedRow 33 = .ok (.getfield 34, 3) := by decide +kernel
theorem dX4_writeMovedRow_36 : decode cX4_writeMovedRow 36 = .ok (.iload 6, 2) := by decide +kernel
theorem dX4_writeMovedRow_38 : decode cX4_writeMovedRow 38 = .ok (.laload, 1) := by decide +kernel
theorem dX4_writeMovedRow_39 : decode cX4_writeMovedRow 39 = .ok (.lxor, 1) := by decide +kernel
theorem dX4_writeMovedRow_40 : decode cX4_writeMovedRow 40 = .ok (.lstore 4, 2) := by decide +kernel
theorem dX4_writeMovedRow_42 : decode cX4_writeMovedRow 42 = .ok (.iinc 6 1, 3) := by decide +kernel
theorem dX4_writeMovedRow_45 : decode cX4_writeMovedRow 45 = .ok (.goto (-33), 3) := by decide +kernel
theorem dX4_writeMovedRow_48 : decode cX4_writeMovedRow 48 = .ok (.iconst 0, 1) := by decide +kernel
theorem dX4_writeMovedRow_49 : decode cX4_writeMovedRow 49 = .ok (.istore 6, 2) := by decide +kernel
theorem dX4_writeMovedRow_51 : decode cX4_writeMovedRow 51 = .ok (.iload 6, 2) := by decide +kernel
theorem dX4_writeMovedRow_53 : decode cX4_writeMovedRow 53 = .ok (.iload_n 2, 1) := by decide +kernel
theorem dX4_writeMovedRow_54 : decode cX4_writeMovedRow 54 = .ok (.if_icmp .ge 86, 3) := by decide +kernel
theorem dX4_writeMovedRow_57 : decode cX4_writeMovedRow 57 = .ok (.iload 6, 2) := by decide +kernel
theorem dX4_writeMovedRow_59 : decode cX4_writeMovedRow 59 = .ok (.iload_n 3, 1) := by decide +kernel
theorem dX4_writeMovedRow_60 : decode cX4_writeMovedRow 60 = .ok (.if_icmp .le 12, 3) := by decide +kernel
theorem dX4_writeMovedRow_63 : decode cX4_writeMovedRow 63 = .ok (.iload 6, 2) := by decide +kernel
theorem dX4_writeMovedRow_65 : decode cX4_writeMovedRow 65 = .ok (.iload_n 3, 1) := by decide +kernel
theorem dX4_writeMovedRow_66 : decode cX4_writeMovedRow 66 = .ok (.isub, 1) := by decide +kernel
theorem dX4_writeMovedRow_67 : decode cX4_writeMovedRow 67 = .ok (.iconst 1, 1) := by decide +kernel
theorem dX4_writeMovedRow_68 : decode cX4_writeMovedRow 68 = .ok (.isub, 1) := by decide +kernel
theorem dX4_writeMovedRow_69 : decode cX4_writeMovedRow 69 = .ok (.goto 11, 3) := by decide +kernel
theorem dX4_writeMovedRow_72 : decode cX4_writeMovedRow 72 = .ok (.iload 6, 2) := by decide +kernel
theorem dX4_writeMovedRow_74 : decode cX4_writeMovedRow 74 = .ok (.iload_n 3, 1) := by decide +kernel
theorem dX4_writeMovedRow_75 : decode cX4_writeMovedRow 75 = .ok (.isub, 1) := by decide +kernel
theorem dX4_writeMovedRow_76 : decode cX4_writeMovedRow 76 = .ok (.iconst 1, 1) := by decide +kernel
theorem dX4_writeMovedRow_77 : decode cX4_writeMovedRow 77 = .ok (.isub, 1) := by decide +kernel
theorem dX4_writeMovedRow_78 : decode cX4_writeMovedRow 78 = .ok (.iload_n 2, 1) := by decide +kernel
theorem dX4_writeMovedRow_79 : decode cX4_writeMovedRow 79 = .ok (.iadd, 1) := by decide +kernel
theorem dX4_writeMovedRow_80 : decode cX4_writeMovedRow 80 = .ok (.istore 7, 2) := by decide +kernel
theorem dX4_writeMovedRow_82 : decode cX4_writeMovedRow 82 = .ok (.iload 6, 2) := by decide +kernel
theorem dX4_writeMovedRow_84 : decode cX4_writeMovedRow 84 = .ok (.iload_n 3, 1) := by decide +kernel
theorem dX4_writeMovedRow_85 : decode cX4_writeMovedRow 85 = .ok (.if_icmp .eq 22, 3) := by decide +kernel
theorem dX4_writeMovedRow_88 : decode cX4_writeMovedRow 88 = .ok (.iload 7, 2) := by decide +kernel
theorem dX4_writeMovedRow_90 : decode cX4_writeMovedRow 90 = .ok (.ifCond .lt 17, 3) := by decide +kernel
theorem dX4_writeMovedRow_93 : decode cX4_writeMovedRow 93 = .ok (.iload 7, 2) := by decide +kernel
theorem dX4_writeMovedRow_95 : decode cX4_writeMovedRow 95 = .ok (.aload_n 0, 1) := by decide +kernel
theorem dX4_writeMovedRow_96 : decode cX4_writeMovedRow 96 = .ok (.getfield 34, 3) := by decide +kernel
theorem dX4_writeMovedRow_99 : decode cX4_writeMovedRow 99 = .ok (.arraylength, 1) := by decide +kernel
theorem dX4_writeMovedRow_100 : decode cX4_writeMovedRow 100 = .ok (.if_icmp .ge 7, 3) := by decide +kernel
theorem dX4_writeMovedRow_103 : decode cX4_writeMovedRow 103 = .ok (.iconst 1, 1) := by decide +kernel
theorem dX4_writeMovedRow_104 : decode cX4_writeMovedRow 104 = .ok (.goto 4, 3) := by decide +kernel
theorem dX4_writeMovedRow_107 : decode cX4_writeMovedRow 107 = .ok (.iconst 0, 1) := by decide +kernel
theorem dX4_writeMovedRow_108 : decode cX4_writeMovedRow 108 = .ok (.istore 8, 2) := by decide +kernel
theorem dX4_writeMovedRow_110 : decode cX4_writeMovedRow 110 = .ok (.aload_n 0, 1) := by decide +kernel
theorem dX4_writeMovedRow_111 : decode cX4_writeMovedRow 111 = .ok (.iload 6, 2) := by decide +kernel
theorem dX4_writeMovedRow_113 : decode cX4_writeMovedRow 113 = .ok (.iload_n 1, 1) := by decide +kernel
theorem dX4_writeMovedRow_114 : decode cX4_writeMovedRow 114 = .ok (.iload 8, 2) := by decide +kernel
theorem dX4_writeMovedRow_116 : decode cX4_writeMovedRow 116 = .ok (.ifCond .eq 13, 3) := by decide +kernel
theorem dX4_writeMovedRow_119 : decode cX4_writeMovedRow 119 = .ok (.aload_n 0, 1) := by decide +kernel
theorem dX4_writeMovedRow_120 : decode cX4_writeMovedRow 120 = .ok (.getfield 34, 3) := by decide +kernel
theorem dX4_writeMovedRow_123 : decode cX4_writeMovedRow 123 = .ok (.iload 7, 2) := by decide +kernel
theorem dX4_writeMovedRow_125 : decode cX4_writeMovedRow 125 = .ok (.laload, 1) := by decide +kernel
theorem dX4_writeMovedRow_126 : decode cX4_writeMovedRow 126 = .ok (.goto 5, 3) := by decide +kernel
theorem dX4_writeMovedRow_129 : decode cX4_writeMovedRow 129 = .ok (.lload 4, 2) := by decide +kernel
theorem dX4_writeMovedRow_131 : decode cX4_writeMovedRow 131 = .ok (.invokevirtual 278, 3) := by decide +kernel
theorem dX4_writeMovedRow_134 : decode cX4_writeMovedRow 134 = .ok (.iinc 6 1, 3) := by decide +kernel
theorem dX4_writeMovedRow_137 : decode cX4_writeMovedRow 137 = .ok (.goto (-86), 3) := by decide +kernel
theorem dX4_writeMovedRow_140 : decode cX4_writeMovedRow 140 = .ok (.return_, 1) := by decide +kernel
theorem dX4_findWhatHolds_0 : decode cX4_findWhatHolds 0 = .ok (.iconst 0, 1) := by decide +kernel
theorem dX4_findWhatHolds_1 : decode cX4_findWhatHolds 1 = .ok (.istore_n 1, 1) := by decide +kernel
theorem dX4_findWhatHolds_2 : decode cX4_findWhatHolds 2 = .ok (.iconst 0, 1) := by decide +kernel
theorem dX4_findWhatHolds_3 : decode cX4_findWhatHolds 3 = .ok (.istore_n 2, 1) := by decide +kernel
theorem dX4_findWhatHolds_4 : decode cX4_findWhatHolds 4 = .ok (.iload_n 2, 1) := by decide +kernel
theorem dX4_findWhatHolds_5 : decode cX4_findWhatHolds 5 = .ok (.aload_n 0, 1) := by decide +kernel
theorem dX4_findWhatHolds_6 : decode cX4_findWhatHolds 6 = .ok (.getfield 7, 3) := by decide +kernel
theorem dX4_findWhatHolds_9 : decode cX4_findWhatHolds 9 = .ok (.if_icmp .ge 48, 3) := by decide +kernel
theorem dX4_findWhatHolds_12 : decode cX4_findWhatHolds 12 = .ok (.aload_n 0, 1) := by decide +kernel
theorem dX4_findWhatHolds_13 : decode cX4_findWhatHolds 13 = .ok (.getfield 40, 3) := by decide +kernel
theorem dX4_findWhatHolds_16 : decode cX4_findWhatHolds 16 = .ok (.iload_n 2, 1) := by decide +kernel
theorem dX4_findWhatHolds_17 : decode cX4_findWhatHolds 17 = .ok (.aaload, 1) := by decide +kernel
theorem dX4_findWhatHolds_18 : decode cX4_findWhatHolds 18 = .ok (.getfield 47, 3) := by decide +kernel
theorem dX4_findWhatHolds_21 : decode cX4_findWhatHolds 21 = .ok (.astore_n 3, 1) := by decide +kernel
theorem dX4_findWhatHolds_22 : decode cX4_findWhatHolds 22 = .ok (.aload_n 0, 1) := by decide +kernel
theorem dX4_findWhatHolds_23 : decode cX4_findWhatHolds 23 = .ok (.iload_n 2, 1) := by decide +kernel
theorem dX4_findWhatHolds_24 : decode cX4_findWhatHolds 24 = .ok (.invokevirtual 257, 3) := by decide +kernel
theorem dX4_findWhatHolds_27 : decode cX4_findWhatHolds 27 = .ok (.ifCond .eq 24, 3) := by decide +kernel
theorem dX4_findWhatHolds_30 : decode cX4_findWhatHolds 30 = .ok (.aload_n 3, 1) := by decide +kernel
theorem dX4_findWhatHolds_31 : decode cX4_findWhatHolds 31 = .ok (.getfield 81, 3) := by decide +kernel
theorem dX4_findWhatHolds_34 : decode cX4_findWhatHolds 34 = .ok (.iload_n 1, 1) := by decide +kernel
theorem dX4_findWhatHolds_35 : decode cX4_findWhatHolds 35 = .ok (.if_icmp .le 16, 3) := by decide +kernel
theorem dX4_findWhatHolds_38 : decode cX4_findWhatHolds 38 = .ok (.aload_n 3, 1) := by decide +kernel
theorem dX4_findWhatHolds_39 : decode cX4_findWhatHolds 39 = .ok (.getfield 81, 3) := by decide +kernel
theorem dX4_findWhatHolds_42 : decode cX4_findWhatHolds 42 = .ok (.istore_n 1, 1) := by decide +kernel
theorem dX4_findWhatHolds_43 : decode cX4_findWhatHolds 43 = .ok (.aload_n 0, 1) := by decide +kernel
theorem dX4_findWhatHolds_44 : decode cX4_findWhatHolds 44 = .ok (.getfield 19, 3) := by decide +kernel
theorem dX4_findWhatHolds_47 : decode cX4_findWhatHolds 47 = .ok (.aload_n 3, 1) := by decide +kernel
theorem dX4_findWhatHolds_48 : decode cX4_findWhatHolds 48 = .ok (.invokevirtual 50, 3) := by decide +kernel
theorem dX4_findWhatHolds_51 : decode cX4_findWhatHolds 51 = .ok (.iinc 2 1, 3) := by decide +kernel
theorem dX4_findWhatHolds_54 : decode cX4_findWhatHolds 54 = .ok (.goto (-50), 3) := by decide +kernel
theorem dX4_findWhatHolds_57 : decode cX4_findWhatHolds 57 = .ok (.aload_n 0, 1) := by decide +kernel
theorem dX4_findWhatHolds_58 : decode cX4_findWhatHolds 58 = .ok (.iconst 0, 1) := by decide +kernel
theorem dX4_findWhatHolds_59 : decode cX4_findWhatHolds 59 = .ok (.putfield 159, 3) := by decide +kernel
theorem dX4_findWhatHolds_62 : decode cX4_findWhatHolds 62 = .ok (.return_, 1) := by decide +kernel
theorem dX4_levelSupers_0 : decode cX4_levelSupers 0 = .ok (.iconst 0, 1) := by decide +kernel
theorem dX4_levelSupers_1 : decode cX4_levelSupers 1 = .ok (.istore_n 1, 1) := by decide +kernel
theorem dX4_levelSupers_2 : decode cX4_levelSupers 2 = .ok (.iload_n 1, 1) := by decide +kernel
theorem dX4_levelSupers_3 : decode cX4_levelSupers 3 = .ok (.aload_n 0, 1) := by decide +kernel
theorem dX4_levelSupers_4 : decode cX4_levelSupers 4 = .ok (.getfield 7, 3) := by decide +kernel
theorem dX4_levelSupers_7 : decode cX4_levelSupers 7 = .ok (.if_icmp .ge 69, 3) := by decide +kernel
theorem dX4_levelSupers_10 : decode cX4_levelSupers 10 = .ok (.aload_n 0, 1) := by decide +kernel
theorem dX4_levelSupers_11 : decode cX4_levelSupers 11 = .ok (.getfield 40, 3) := by decide +kernel
theorem dX4_levelSupers_14 : decode cX4_levelSupers 14 = .ok (.iload_n 1, 1) := by decide +kernel
theorem dX4_levelSupers_15 : decode cX4_levelSupers 15 = .ok (.aaload, 1) := by decide +kernel
theorem dX4_levelSupers_16 : decode cX4_levelSupers 16 = .ok (.getfield 47, 3) := by decide +kernel
theorem dX4_levelSupers_19 : decode cX4_levelSupers 19 = .ok (.getfield 81, 3) := by decide +kernel
theorem dX4_levelSupers_22 : decode cX4_levelSupers 22 = .ok (.aload_n 0, 1) := by decide +kernel
theorem dX4_levelSupers_23 : decode cX4_levelSupers 23 = .ok (.getfield 19, 3) := by decide +kernel
theorem dX4_levelSupers_26 : decode cX4_levelSupers 26 = .ok (.getfield 81, 3) := by decide +kernel
theorem dX4_levelSupers_29 : decode cX4_levelSupers 29 = .ok (.if_icmp .eq 7, 3) := by decide +kernel
theorem dX4_levelSupers_32 : decode cX4_levelSupers 32 = .ok (.iconst 1, 1) := by decide +kernel
theorem dX4_levelSupers_33 : decode cX4_levelSupers 33 = .ok (.goto 4, 3) := by decide +kernel
theorem dX4_levelSupers_36 : decode cX4_levelSupers 36 = .ok (.iconst 0, 1) := by decide +kernel
theorem dX4_levelSupers_37 : decode cX4_levelSupers 37 = .ok (.istore_n 2, 1) := by decide +kernel
theorem dX4_levelSupers_38 : decode cX4_levelSupers 38 = .ok (.aload_n 0, 1) := by decide +kernel
theorem dX4_levelSupers_39 : decode cX4_levelSupers 39 = .ok (.iload_n 1, 1) := by decide +kernel
theorem dX4_levelSupers_40 : decode cX4_levelSupers 40 = .ok (.invokevirtual 257, 3) := by decide +kernel
theorem dX4_levelSupers_43 : decode cX4_levelSupers 43 = .ok (.ifCond .eq 27, 3) := by decide +kernel
theorem dX4_levelSupers_46 : decode cX4_levelSupers 46 = .ok (.iload_n 2, 1) := by decide +kernel
theorem dX4_levelSupers_47 : decode cX4_levelSupers 47 = .ok (.ifCond .eq 23, 3) := by decide +kernel
theorem dX4_levelSupers_50 : decode cX4_levelSupers 50 = .ok (.aload_n 0, 1) := by decide +kernel
theorem dX4_levelSupers_51 : decode cX4_levelSupers 51 = .ok (.invokevirtual 108, 3) := by decide +kernel
theorem dX4_levelSupers_54 : decode cX4_levelSupers 54 = .ok (.ifCond .eq 16, 3) := by decide +kernel
theorem dX4_levelSupers_57 : decode cX4_levelSupers 57 = .ok (.aload_n 0, 1) := by decide +kernel
theorem dX4_levelSupers_58 : decode cX4_levelSupers 58 = .ok (.getfield 40, 3) := by decide +kernel
theorem dX4_levelSupers_61 : decode cX4_levelSupers 61 = .ok (.iload_n 1, 1) := by decide +kernel
theorem dX4_levelSupers_62 : decode cX4_levelSupers 62 = .ok (.aaload, 1) := by decide +kernel
theorem dX4_levelSupers_63 : decode cX4_levelSupers 63 = .ok (.aload_n 0, 1) := by decide +kernel
theorem dX4_levelSupers_64 : decode cX4_levelSupers 64 = .ok (.getfield 19, 3) := by decide +kernel
theorem dX4_levelSupers_67 : decode cX4_levelSupers 67 = .ok (.invokevirtual 112, 3) := by decide +kernel
theorem dX4_levelSupers_70 : decode cX4_levelSupers 70 = .ok (.iinc 1 1, 3) := by decide +kernel
theorem dX4_levelSupers_73 : decode cX4_levelSupers 73 = .ok (.goto (-71), 3) := by decide +kernel
theorem dX4_levelSupers_76 : decode cX4_levelSupers 76 = .ok (.return_, 1) := by decide +kernel
theorem dX4_replayJournal_0 : decode cX4_replayJournal 0 = .ok (.iconst 0, 1) := by decide +kernel
theorem dX4_replayJournal_1 : decode cX4_replayJournal 1 = .ok (.istore_n 1, 1) := by decide +kernel
theorem dX4_replayJournal_2 : decode cX4_replayJournal 2 = .ok (.iconst 0, 1) := by decide +kernel
theorem dX4_replayJournal_3 : decode cX4_replayJournal 3 = .ok (.istore_n 2, 1) := by decide +kernel
theorem dX4_replayJournal_4 : decode cX4_replayJournal 4 = .ok (.iload_n 2, 1) := by decide +kernel
theorem dX4_replayJournal_5 : decode cX4_replayJournal 5 = .ok (.aload_n 0, 1) := by decide +kernel
theorem dX4_replayJournal_6 : decode cX4_replayJournal 6 = .ok (.getfield 7, 3) := by decide +kernel
theorem dX4_replayJournal_9 : decode cX4_replayJournal 9 = .ok (.if_icmp .ge 62, 3) := by decide +kernel
theorem dX4_replayJournal_12 : decode cX4_replayJournal 12 = .ok (.aload_n 0, 1) := by decide +kernel
theorem dX4_replayJournal_13 : decode cX4_replayJournal 13 = .ok (.getfield 40, 3) := by decide +kernel
theorem dX4_replayJournal_16 : decode cX4_replayJournal 16 = .ok (.iload_n 2, 1) := by decide +kernel
theorem dX4_replayJournal_17 : decode cX4_replayJournal 17 = .ok (.aaload, 1) := by decide +kernel
theorem dX4_replayJournal_18 : decode cX4_replayJournal 18 = .ok (.getfield 197, 3) := by decide +kernel
theorem dX4_replayJournal_21 : decode cX4_replayJournal 21 = .ok (.astore_n 3, 1) := by decide +kernel
theorem dX4_replayJournal_22 : decode cX4_replayJournal 22 = .ok (.aload_n 0, 1) := by decide +kernel
theorem dX4_replayJournal_23 : decode cX4_replayJournal 23 = .ok (.iload_n 2, 1) := by decide +kernel
theorem dX4_replayJournal_24 : decode cX4_replayJournal 24 = .ok (.invokevirtual 257, 3) := by decide +kernel
theorem dX4_replayJournal_27 : decode cX4_replayJournal 27 = .ok (.ifCond .eq 38, 3) := by decide +kernel
theorem dX4_replayJournal_30 : decode cX4_replayJournal 30 = .ok (.aload_n 3, 1) := by decide +kernel
theorem dX4_replayJournal_31 : decode cX4_replayJournal 31 = .ok (.getfield 292, 3) := by decide +kernel
theorem dX4_replayJournal_34 : decode cX4_replayJournal 34 = .ok (.aload_n 0, 1) := by decide +kernel
theorem dX4_replayJournal_35 : decode cX4_replayJournal 35 = .ok (.getfield 19, 3) := by decide +kernel
theorem dX4_replayJournal_38 : decode cX4_replayJournal 38 = .ok (.getfield 81, 3) := by decide +kernel
theorem dX4_replayJournal_41 : decode cX4_replayJournal 41 = .ok (.if_icmp .ne 24, 3) := by decide +kernel
theorem dX4_replayJournal_44 : decode cX4_replayJournal 44 = .ok (.aload_n 3, 1) := by decide +kernel
theorem dX4_replayJournal_45 : decode cX4_replayJournal 45 = .ok (.getfield 200, 3) := by decide +kernel
theorem dX4_replayJournal_48 : decode cX4_replayJournal 48 = .ok (.iload_n 1, 1) := by decide +kernel
theorem dX4_replayJournal_49 : decode cX4_replayJournal 49 = .ok (.if_icmp .le 16, 3) := by decide +kernel
theorem dX4_replayJournal_52 : decode cX4_replayJournal 52 = .ok (.aload_n 3, 1) := by decide +kernel
theorem dX4_replayJournal_53 : decode cX4_replayJournal 53 = .ok (.getfield 200, 3) := by decide +kernel
theorem dX4_replayJournal_56 : decode cX4_replayJournal 56 = .ok (.istore_n 1, 1) := by decide +kernel
theorem dX4_replayJournal_57 : decode cX4_replayJournal 57 = .ok (.aload_n 0, 1) := by decide +kernel
theorem dX4_replayJournal_58 : decode cX4_replayJournal 58 = .ok (.getfield 30, 3) := by decide +kernel
theorem dX4_replayJournal_61 : decode cX4_replayJournal 61 = .ok (.aload_n 3, 1) := by decide +kernel
theorem dX4_replayJournal_62 : decode cX4_replayJournal 62 = .ok (.invokevirtual 293, 3) := by decide +kernel
theorem dX4_replayJournal_65 : decode cX4_replayJournal 65 = .ok (.iinc 2 1, 3) := by decide +kernel
theorem dX4_replayJournal_68 : decode cX4_replayJournal 68 = .ok (.goto (-64), 3) := by decide +kernel
theorem dX4_replayJournal_71 : decode cX4_replayJournal 71 = .ok (.iload_n 1, 1) := by decide +kernel
theorem dX4_replayJournal_72 : decode cX4_replayJournal 72 = .ok (.ifCond .ne 5, 3) := by decide +kernel
theorem dX4_replayJournal_75 : decode cX4_replayJournal 75 = .ok (.iconst 0, 1) := by decide +kernel
theorem dX4_replayJournal_76 : decode cX4_replayJournal 76 = .ok (.ireturn, 1) := by decide +kernel
theorem dX4_replayJournal_77 : decode cX4_replayJournal 77 = .ok (.aload_n 0, 1) := by decide +kernel
theorem dX4_replayJournal_78 : decode cX4_replayJournal 78 = .ok (.invokevirtual 101, 3) := by decide +kernel
theorem dX4_replayJournal_81 : decode cX4_replayJournal 81 = .ok (.iconst 1, 1) := by decide +kernel
theorem dX4_replayJournal_82 : decode cX4_replayJournal 82 = .ok (.ireturn, 1) := by decide +kernel
theorem dX4_resumeReshaping_0 : decode cX4_resumeReshaping 0 = .ok (.aload_n 0, 1) := by decide +kernel
theorem dX4_resumeReshaping_1 : decode cX4_resumeReshaping 1 = .ok (.invokevirtual 118, 3) := by decide +kernel
theorem dX4_resumeReshaping_4 : decode cX4_resumeReshaping 4 = .ok (.ifCond .ne 5, 3) := by decide +kernel
theorem dX4_resumeReshaping_7 : decode cX4_resumeReshaping 7 = .ok (.iconst 0, 1) := by decide +kernel
theorem dX4_resumeReshaping_8 : decode cX4_resumeReshaping 8 = .ok (.ireturn, 1) := by decide +kernel
theorem dX4_resumeReshaping_9 : decode cX4_resumeReshaping 9 = .ok (.aload_n 0, 1) := by decide +kernel
theorem dX4_resumeReshaping_10 : decode cX4_resumeReshaping 10 = .ok (.invokevirtual 295, 3) := by decide +kernel
theorem dX4_resumeReshaping_13 : decode cX4_resumeReshaping 13 = .ok (.ifCond .eq 10, 3) := by decide +kernel
theorem dX4_resumeReshaping_16 : decode cX4_resumeReshaping 16 = .ok (.aload_n 0, 1) := by decide +kernel
theorem dX4_resumeReshaping_17 : decode cX4_resumeReshaping 17 = .ok (.invokevirtual 137, 3) := by decide +kernel
theorem dX4_resumeReshaping_20 : decode cX4_resumeReshaping 20 = .ok (.goto 16, 3) := by decide +kernel
theorem dX4_resumeReshaping_23 : decode cX4_resumeReshaping 23 = .ok (.aload_n 0, 1) := by decide +kernel
theorem dX4_resumeReshaping_24 : decode cX4_resumeReshaping 24 = .ok (.invokevirtual 134, 3) := by decide +kernel
theorem dX4_resumeReshaping_27 : decode cX4_resumeReshaping 27 = .ok (.ifCond .eq 5, 3) := by decide +kernel
theorem dX4_resumeReshaping_30 : decode cX4_resumeReshaping 30 = .ok (.iconst 0, 1) := by decide +kernel
theorem dX4_resumeReshaping_31 : decode cX4_resumeReshaping 31 = .ok (.ireturn, 1) := by decide +kernel
theorem dX4_resumeReshaping_32 : decode cX4_resumeReshaping 32 = .ok (.aload_n 0, 1) := by decide +kernel
theorem dX4_resumeReshaping_33 : decode cX4_resumeReshaping 33 = .ok (.invokevirtual 131, 3) := by decide +kernel
theorem dX4_resumeReshaping_36 : decode cX4_resumeReshaping 36 = .ok (.aload_n 0, 1) := by decide +kernel
theorem dX4_resumeReshaping_37 : decode cX4_resumeReshaping 37 = .ok (.invokevirtual 140, 3) := by decide +kernel
theorem dX4_resumeReshaping_40 : decode cX4_resumeReshaping 40 = .ok (.iconst 1, 1) := by decide +kernel
theorem dX4_resumeReshaping_41 : decode cX4_resumeReshaping 41 = .ok (.ireturn, 1) := by decide +kernel
theorem dX4_recallBackup_0 : decode cX4_recallBackup 0 = .ok (.iconst 0, 1) := by decide +kernel
theorem dX4_recallBackup_1 : decode cX4_recallBackup 1 = .ok (.istore_n 1, 1) := by decide +kernel
theorem dX4_recallBackup_2 : decode cX4_recallBackup 2 = .ok (.iload_n 1, 1) := by decide +kernel
theorem dX4_recallBackup_3 : decode cX4_recallBackup 3 = .ok (.aload_n 0, 1) := by decide +kernel
theorem dX4_recallBackup_4 : decode cX4_recallBackup 4 = .ok (.getfield 7, 3) := by decide +kernel
theorem dX4_recallBackup_7 : decode cX4_recallBackup 7 = .ok (.if_icmp .ge 51, 3) := by decide +kernel
theorem dX4_recallBackup_10 : decode cX4_recallBackup 10 = .ok (.aload_n 0, 1) := by decide +kernel
theorem dX4_recallBackup_11 : decode cX4_recallBackup 11 = .ok (.getfield 40, 3) := by decide +kernel
theorem dX4_recallBackup_14 : decode cX4_recallBackup 14 = .ok (.iload_n 1, 1) := by decide +kernel
theorem dX4_recallBackup_15 : decode cX4_recallBackup 15 = .ok (.aaload, 1) := by decide +kernel
theorem dX4_recallBackup_16 : decode cX4_recallBackup 16 = .ok (.getfield 203, 3) := by decide +kernel
theorem dX4_recallBackup_19 : decode cX4_recallBackup 19 = .ok (.astore_n 2, 1) := by decide +kernel
theorem dX4_recallBackup_20 : decode cX4_recallBackup 20 = .ok (.aload_n 0, 1) := by decide +kernel
theorem dX4_recallBackup_21 : decode cX4_recallBackup 21 = .ok (.iload_n 1, 1) := by decide +kernel
theorem dX4_recallBackup_22 : decode cX4_recallBackup 22 = .ok (.invokevirtual 257, 3) := by decide +kernel
theorem dX4_recallBackup_25 : decode cX4_recallBackup 25 = .ok (.ifCond .eq 27, 3) := by decide +kernel
theorem dX4_recallBackup_28 : decode cX4_recallBackup 28 = .ok (.aload_n 2, 1) := by decide +kernel
theorem dX4_recallBackup_29 : decode cX4_recallBackup 29 = .ok (.getfield 298, 3) := by decide +kernel
theorem dX4_recallBackup_32 : decode cX4_recallBackup 32 = .ok (.aload_n 0, 1) := by decide +kernel
theorem dX4_recallBackup_33 : decode cX4_recallBackup 33 = .ok (.getfield 19, 3) := by decide +kernel
theorem dX4_recallBackup_36 : decode cX4_recallBackup 36 = .ok (.getfield 81, 3) := by decide +kernel
theorem dX4_recallBackup_39 : decode cX4_recallBackup 39 = .ok (.if_icmp .ne 13, 3) := by decide +kernel
theorem dX4_recallBackup_42 : decode cX4_recallBackup 42 = .ok (.aload_n 2, 1) := by decide +kernel
theorem dX4_recallBackup_43 : decode cX4_recallBackup 43 = .ok (.aload_n 0, 1) := by decide +kernel
theorem dX4_recallBackup_44 : decode cX4_recallBackup 44 = .ok (.getfield 34, 3) := by decide +kernel
theorem dX4_recallBackup_47 : decode cX4_recallBackup 47 = .ok (.invokevirtual 299, 3) := by decide +kernel
theorem dX4_recallBackup_50 : decode cX4_recallBackup 50 = .ok (.iconst 1, 1) := by decide +kernel
theorem dX4_recallBackup_51 : decode cX4_recallBackup 51 = .ok (.ireturn, 1) := by decide +kernel
theorem dX4_recallBackup_52 : decode cX4_recallBackup 52 = .ok (.iinc 1 1, 3) := by decide +kernel
theorem dX4_recallBackup_55 : decode cX4_recallBackup 55 = .ok (.goto (-53), 3) := by decide +kernel
theorem dX4_recallBackup_58 : decode cX4_recallBackup 58 = .ok (.iconst 0, 1) := by decide +kernel
theorem dX4_recallBackup_59 : decode cX4_recallBackup 59 = .ok (.ireturn, 1) := by decide +kernel
