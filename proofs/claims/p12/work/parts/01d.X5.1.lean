theorem dX5_fresh_12 : decode cX5_fresh 12 = .ok (.iconst 1, 1) := by decide +kernel
theorem dX5_fresh_13 : decode cX5_fresh 13 = .ok (.iastore, 1) := by decide +kernel
theorem dX5_fresh_14 : decode cX5_fresh 14 = .ok (.aload_n 0, 1) := by decide +kernel
theorem dX5_fresh_15 : decode cX5_fresh 15 = .ok (.getfield 28, 3) := by decide +kernel
theorem dX5_fresh_18 : decode cX5_fresh 18 = .ok (.iload_n 1, 1) := by decide +kernel
theorem dX5_fresh_19 : decode cX5_fresh 19 = .ok (.iconst 0, 1) := by decide +kernel
theorem dX5_fresh_20 : decode cX5_fresh 20 = .ok (.iastore, 1) := by decide +kernel
theorem dX5_fresh_21 : decode cX5_fresh 21 = .ok (.aload_n 0, 1) := by decide +kernel
theorem dX5_fresh_22 : decode cX5_fresh 22 = .ok (.getfield 37, 3) := by decide +kernel
theorem dX5_fresh_25 : decode cX5_fresh 25 = .ok (.iload_n 1, 1) := by decide +kernel
theorem dX5_fresh_26 : decode cX5_fresh 26 = .ok (.iconst 0, 1) := by decide +kernel
theorem dX5_fresh_27 : decode cX5_fresh 27 = .ok (.iastore, 1) := by decide +kernel
theorem dX5_fresh_28 : decode cX5_fresh 28 = .ok (.aload_n 0, 1) := by decide +kernel
theorem dX5_fresh_29 : decode cX5_fresh 29 = .ok (.iload_n 1, 1) := by decide +kernel
theorem dX5_fresh_30 : decode cX5_fresh 30 = .ok (.aload_n 0, 1) := by decide +kernel
theorem dX5_fresh_31 : decode cX5_fresh 31 = .ok (.getfield 61, 3) := by decide +kernel
theorem dX5_fresh_34 : decode cX5_fresh 34 = .ok (.aload_n 0, 1) := by decide +kernel
theorem dX5_fresh_35 : decode cX5_fresh 35 = .ok (.getfield 64, 3) := by decide +kernel
theorem dX5_fresh_38 : decode cX5_fresh 38 = .ok (.aload_n 0, 1) := by decide +kernel
theorem dX5_fresh_39 : decode cX5_fresh 39 = .ok (.getfield 67, 3) := by decide +kernel
theorem dX5_fresh_42 : decode cX5_fresh 42 = .ok (.aload_n 0, 1) := by decide +kernel
theorem dX5_fresh_43 : decode cX5_fresh 43 = .ok (.getfield 94, 3) := by decide +kernel
theorem dX5_fresh_46 : decode cX5_fresh 46 = .ok (.invokevirtual 70, 3) := by decide +kernel
theorem dX5_fresh_49 : decode cX5_fresh 49 = .ok (.return_, 1) := by decide +kernel
theorem dX5_grow_0 : decode cX5_grow 0 = .ok (.aload_n 0, 1) := by decide +kernel
theorem dX5_grow_1 : decode cX5_grow 1 = .ok (.aload_n 0, 1) := by decide +kernel
theorem dX5_grow_2 : decode cX5_grow 2 = .ok (.getfield 44, 3) := by decide +kernel
theorem dX5_grow_5 : decode cX5_grow 5 = .ok (.ifCond .eq 7, 3) := by decide +kernel
theorem dX5_grow_8 : decode cX5_grow 8 = .ok (.iconst 0, 1) := by decide +kernel
theorem dX5_grow_9 : decode cX5_grow 9 = .ok (.goto 4, 3) := by decide +kernel
theorem dX5_grow_12 : decode cX5_grow 12 = .ok (.iconst 1, 1) := by decide +kernel
theorem dX5_grow_13 : decode cX5_grow 13 = .ok (.putfield 74, 3) := by decide +kernel
theorem dX5_grow_16 : decode cX5_grow 16 = .ok (.aload_n 0, 1) := by decide +kernel
theorem dX5_grow_17 : decode cX5_grow 17 = .ok (.getfield 74, 3) := by decide +kernel
theorem dX5_grow_20 : decode cX5_grow 20 = .ok (.ifCond .le 5, 3) := by decide +kernel
theorem dX5_grow_23 : decode cX5_grow 23 = .ok (.iconst 0, 1) := by decide +kernel
theorem dX5_grow_24 : decode cX5_grow 24 = .ok (.ireturn, 1) := by decide +kernel
theorem dX5_grow_25 : decode cX5_grow 25 = .ok (.aload_n 0, 1) := by decide +kernel
theorem dX5_grow_26 : decode cX5_grow 26 = .ok (.getfield 58, 3) := by decide +kernel
theorem dX5_grow_29 : decode cX5_grow 29 = .ok (.aload_n 0, 1) := by decide +kernel
theorem dX5_grow_30 : decode cX5_grow 30 = .ok (.getfield 64, 3) := by decide +kernel
theorem dX5_grow_33 : decode cX5_grow 33 = .ok (.if_icmp .eq 17, 3) := by decide +kernel
theorem dX5_grow_36 : decode cX5_grow 36 = .ok (.aload_n 0, 1) := by decide +kernel
theorem dX5_grow_37 : decode cX5_grow 37 = .ok (.invokevirtual 97, 3) := by decide +kernel
theorem dX5_grow_40 : decode cX5_grow 40 = .ok (.ifCond .ne 10, 3) := by decide +kernel
theorem dX5_grow_43 : decode cX5_grow 43 = .ok (.aload_n 0, 1) := by decide +kernel
theorem dX5_grow_44 : decode cX5_grow 44 = .ok (.invokevirtual 135, 3) := by decide +kernel
theorem dX5_grow_47 : decode cX5_grow 47 = .ok (.ifCond .eq 5, 3) := by decide +kernel
theorem dX5_grow_50 : decode cX5_grow 50 = .ok (.iconst (-1), 1) := by decide +kernel
theorem dX5_grow_51 : decode cX5_grow 51 = .ok (.ireturn, 1) := by decide +kernel
theorem dX5_grow_52 : decode cX5_grow 52 = .ok (.aload_n 0, 1) := by decide +kernel
theorem dX5_grow_53 : decode cX5_grow 53 = .ok (.aload_n 0, 1) := by decide +kernel
theorem dX5_grow_54 : decode cX5_grow 54 = .ok (.getfield 64, 3) := by decide +kernel
theorem dX5_grow_57 : decode cX5_grow 57 = .ok (.aload_n 0, 1) := by decide +kernel
theorem dX5_grow_58 : decode cX5_grow 58 = .ok (.getfield 58, 3) := by decide +kernel
theorem dX5_grow_61 : decode cX5_grow 61 = .ok (.iconst 0, 1) := by decide +kernel
theorem dX5_grow_62 : decode cX5_grow 62 = .ok (.iconst (-1), 1) := by decide +kernel
theorem dX5_grow_63 : decode cX5_grow 63 = .ok (.invokevirtual 138, 3) := by decide +kernel
theorem dX5_grow_66 : decode cX5_grow 66 = .ok (.ifCond .eq 10, 3) := by decide +kernel
theorem dX5_grow_69 : decode cX5_grow 69 = .ok (.aload_n 0, 1) := by decide +kernel
theorem dX5_grow_70 : decode cX5_grow 70 = .ok (.getfield 67, 3) := by decide +kernel
theorem dX5_grow_73 : decode cX5_grow 73 = .ok (.goto 4, 3) := by decide +kernel
theorem dX5_grow_76 : decode cX5_grow 76 = .ok (.iconst 0, 1) := by decide +kernel
theorem dX5_grow_77 : decode cX5_grow 77 = .ok (.ireturn, 1) := by decide +kernel
theorem dX5_isCritical_0 : decode cX5_isCritical 0 = .ok (.aload_n 0, 1) := by decide +kernel
theorem dX5_isCritical_1 : decode cX5_isCritical 1 = .ok (.getfield 94, 3) := by decide +kernel
theorem dX5_isCritical_4 : decode cX5_isCritical 4 = .ok (.aload_n 0, 1) := by decide +kernel
theorem dX5_isCritical_5 : decode cX5_isCritical 5 = .ok (.getfield 67, 3) := by decide +kernel
theorem dX5_isCritical_8 : decode cX5_isCritical 8 = .ok (.aload_n 0, 1) := by decide +kernel
theorem dX5_isCritical_9 : decode cX5_isCritical 9 = .ok (.getfield 64, 3) := by decide +kernel
theorem dX5_isCritical_12 : decode cX5_isCritical 12 = .ok (.isub, 1) := by decide +kernel
theorem dX5_isCritical_13 : decode cX5_isCritical 13 = .ok (.imul, 1) := by decide +kernel
theorem dX5_isCritical_14 : decode cX5_isCritical 14 = .ok (.aload_n 0, 1) := by decide +kernel
theorem dX5_isCritical_15 : decode cX5_isCritical 15 = .ok (.getfield 64, 3) := by decide +kernel
theorem dX5_isCritical_18 : decode cX5_isCritical 18 = .ok (.iconst 1, 1) := by decide +kernel
theorem dX5_isCritical_19 : decode cX5_isCritical 19 = .ok (.isub, 1) := by decide +kernel
theorem dX5_isCritical_20 : decode cX5_isCritical 20 = .ok (.if_icmp .ge 7, 3) := by decide +kernel
theorem dX5_isCritical_23 : decode cX5_isCritical 23 = .ok (.iconst 1, 1) := by decide +kernel
theorem dX5_isCritical_24 : decode cX5_isCritical 24 = .ok (.goto 4, 3) := by decide +kernel
theorem dX5_isCritical_27 : decode cX5_isCritical 27 = .ok (.iconst 0, 1) := by decide +kernel
theorem dX5_isCritical_28 : decode cX5_isCritical 28 = .ok (.ireturn, 1) := by decide +kernel
theorem dX5_backups_0 : decode cX5_backups 0 = .ok (.iconst 0, 1) := by decide +kernel
theorem dX5_backups_1 : decode cX5_backups 1 = .ok (.istore_n 1, 1) := by decide +kernel
theorem dX5_backups_2 : decode cX5_backups 2 = .ok (.iload_n 1, 1) := by decide +kernel
theorem dX5_backups_3 : decode cX5_backups 3 = .ok (.aload_n 0, 1) := by decide +kernel
theorem dX5_backups_4 : decode cX5_backups 4 = .ok (.getfield 58, 3) := by decide +kernel
theorem dX5_backups_7 : decode cX5_backups 7 = .ok (.if_icmp .ge 41, 3) := by decide +kernel
theorem dX5_backups_10 : decode cX5_backups 10 = .ok (.aload_n 0, 1) := by decide +kernel
theorem dX5_backups_11 : decode cX5_backups 11 = .ok (.getfield 9, 3) := by decide +kernel
theorem dX5_backups_14 : decode cX5_backups 14 = .ok (.iload_n 1, 1) := by decide +kernel
theorem dX5_backups_15 : decode cX5_backups 15 = .ok (.iaload, 1) := by decide +kernel
theorem dX5_backups_16 : decode cX5_backups 16 = .ok (.ifCond .eq 6, 3) := by decide +kernel
theorem dX5_backups_19 : decode cX5_backups 19 = .ok (.goto 23, 3) := by decide +kernel
theorem dX5_backups_22 : decode cX5_backups 22 = .ok (.aload_n 0, 1) := by decide +kernel
theorem dX5_backups_23 : decode cX5_backups 23 = .ok (.iload_n 1, 1) := by decide +kernel
theorem dX5_backups_24 : decode cX5_backups 24 = .ok (.invokevirtual 90, 3) := by decide +kernel
theorem dX5_backups_27 : decode cX5_backups 27 = .ok (.ifCond .ne 5, 3) := by decide +kernel
theorem dX5_backups_30 : decode cX5_backups 30 = .ok (.iconst 0, 1) := by decide +kernel
theorem dX5_backups_31 : decode cX5_backups 31 = .ok (.ireturn, 1) := by decide +kernel
theorem dX5_backups_32 : decode cX5_backups 32 = .ok (.aload_n 0, 1) := by decide +kernel
theorem dX5_backups_33 : decode cX5_backups 33 = .ok (.getfield 37, 3) := by decide +kernel
theorem dX5_backups_36 : decode cX5_backups 36 = .ok (.iload_n 1, 1) := by decide +kernel
theorem dX5_backups_37 : decode cX5_backups 37 = .ok (.aload_n 0, 1) := by decide +kernel
theorem dX5_backups_38 : decode cX5_backups 38 = .ok (.getfield 61, 3) := by decide +kernel
theorem dX5_backups_41 : decode cX5_backups 41 = .ok (.iastore, 1) := by decide +kernel
theorem dX5_backups_42 : decode cX5_backups 42 = .ok (.iinc 1 1, 3) := by decide +kernel
theorem dX5_backups_45 : decode cX5_backups 45 = .ok (.goto (-43), 3) := by decide +kernel
theorem dX5_backups_48 : decode cX5_backups 48 = .ok (.iconst 1, 1) := by decide +kernel
theorem dX5_backups_49 : decode cX5_backups 49 = .ok (.ireturn, 1) := by decide +kernel
theorem dX5_moves_0 : decode cX5_moves 0 = .ok (.iconst 0, 1) := by decide +kernel
theorem dX5_moves_1 : decode cX5_moves 1 = .ok (.istore_n 1, 1) := by decide +kernel
theorem dX5_moves_2 : decode cX5_moves 2 = .ok (.iload_n 1, 1) := by decide +kernel
theorem dX5_moves_3 : decode cX5_moves 3 = .ok (.aload_n 0, 1) := by decide +kernel
theorem dX5_moves_4 : decode cX5_moves 4 = .ok (.getfield 67, 3) := by decide +kernel
theorem dX5_moves_7 : decode cX5_moves 7 = .ok (.if_icmp .ge 23, 3) := by decide +kernel
theorem dX5_moves_10 : decode cX5_moves 10 = .ok (.aload_n 0, 1) := by decide +kernel
theorem dX5_moves_11 : decode cX5_moves 11 = .ok (.iload_n 1, 1) := by decide +kernel
theorem dX5_moves_12 : decode cX5_moves 12 = .ok (.aload_n 0, 1) := by decide +kernel
theorem dX5_moves_13 : decode cX5_moves 13 = .ok (.getfield 94, 3) := by decide +kernel
theorem dX5_moves_16 : decode cX5_moves 16 = .ok (.invokevirtual 116, 3) := by decide +kernel
theorem dX5_moves_19 : decode cX5_moves 19 = .ok (.ifCond .ne 5, 3) := by decide +kernel
theorem dX5_moves_22 : decode cX5_moves 22 = .ok (.iconst 0, 1) := by decide +kernel
theorem dX5_moves_23 : decode cX5_moves 23 = .ok (.ireturn, 1) := by decide +kernel
theorem dX5_moves_24 : decode cX5_moves 24 = .ok (.iinc 1 1, 3) := by decide +kernel
theorem dX5_moves_27 : decode cX5_moves 27 = .ok (.goto (-25), 3) := by decide +kernel
theorem dX5_moves_30 : decode cX5_moves 30 = .ok (.aload_n 0, 1) := by decide +kernel
theorem dX5_moves_31 : decode cX5_moves 31 = .ok (.getfield 94, 3) := by decide +kernel
theorem dX5_moves_34 : decode cX5_moves 34 = .ok (.iconst 1, 1) := by decide +kernel
theorem dX5_moves_35 : decode cX5_moves 35 = .ok (.iadd, 1) := by decide +kernel
theorem dX5_moves_36 : decode cX5_moves 36 = .ok (.aload_n 0, 1) := by decide +kernel
theorem dX5_moves_37 : decode cX5_moves 37 = .ok (.getfield 55, 3) := by decide +kernel
theorem dX5_moves_40 : decode cX5_moves 40 = .ok (.if_icmp .ne 7, 3) := by decide +kernel
theorem dX5_moves_43 : decode cX5_moves 43 = .ok (.iconst 1, 1) := by decide +kernel
theorem dX5_moves_44 : decode cX5_moves 44 = .ok (.goto 4, 3) := by decide +kernel
theorem dX5_moves_47 : decode cX5_moves 47 = .ok (.iconst 0, 1) := by decide +kernel
theorem dX5_moves_48 : decode cX5_moves 48 = .ok (.istore_n 1, 1) := by decide +kernel
theorem dX5_moves_49 : decode cX5_moves 49 = .ok (.iload_n 1, 1) := by decide +kernel
theorem dX5_moves_50 : decode cX5_moves 50 = .ok (.ifCond .eq 20, 3) := by decide +kernel
theorem dX5_moves_53 : decode cX5_moves 53 = .ok (.aload_n 0, 1) := by decide +kernel
theorem dX5_moves_54 : decode cX5_moves 54 = .ok (.aload_n 0, 1) := by decide +kernel
theorem dX5_moves_55 : decode cX5_moves 55 = .ok (.getfield 67, 3) := by decide +kernel
theorem dX5_moves_58 : decode cX5_moves 58 = .ok (.aload_n 0, 1) := by decide +kernel
theorem dX5_moves_59 : decode cX5_moves 59 = .ok (.getfield 67, 3) := by decide +kernel
theorem dX5_moves_62 : decode cX5_moves 62 = .ok (.iconst 0, 1) := by decide +kernel
theorem dX5_moves_63 : decode cX5_moves 63 = .ok (.iconst (-1), 1) := by decide +kernel
theorem dX5_moves_64 : decode cX5_moves 64 = .ok (.invokevirtual 138, 3) := by decide +kernel
theorem dX5_moves_67 : decode cX5_moves 67 = .ok (.goto 22, 3) := by decide +kernel
theorem dX5_moves_70 : decode cX5_moves 70 = .ok (.aload_n 0, 1) := by decide +kernel
theorem dX5_moves_71 : decode cX5_moves 71 = .ok (.aload_n 0, 1) := by decide +kernel
theorem dX5_moves_72 : decode cX5_moves 72 = .ok (.getfield 64, 3) := by decide +kernel
theorem dX5_moves_75 : decode cX5_moves 75 = .ok (.aload_n 0, 1) := by decide +kernel
theorem dX5_moves_76 : decode cX5_moves 76 = .ok (.getfield 67, 3) := by decide +kernel
theorem dX5_moves_79 : decode cX5_moves 79 = .ok (.aload_n 0, 1) := by decide +kernel
theorem dX5_moves_80 : decode cX5_moves 80 = .ok (.getfield 94, 3) := by decide +kernel
theorem dX5_moves_83 : decode cX5_moves 83 = .ok (.iconst 1, 1) := by decide +kernel
theorem dX5_moves_84 : decode cX5_moves 84 = .ok (.iadd, 1) := by decide +kernel
theorem dX5_moves_85 : decode cX5_moves 85 = .ok (.iconst (-1), 1) := by decide +kernel
theorem dX5_moves_86 : decode cX5_moves 86 = .ok (.invokevirtual 138, 3) := by decide +kernel
theorem dX5_moves_89 : decode cX5_moves 89 = .ok (.istore_n 2, 1) := by decide +kernel
theorem dX5_moves_90 : decode cX5_moves 90 = .ok (.iload_n 2, 1) := by decide +kernel
theorem dX5_moves_91 : decode cX5_moves 91 = .ok (.ifCond .ne 5, 3) := by decide +kernel
theorem dX5_moves_94 : decode cX5_moves 94 = .ok (.iconst 0, 1) := by decide +kernel
theorem dX5_moves_95 : decode cX5_moves 95 = .ok (.ireturn, 1) := by decide +kernel
theorem dX5_moves_96 : decode cX5_moves 96 = .ok (.aload_n 0, 1) := by decide +kernel
theorem dX5_moves_97 : decode cX5_moves 97 = .ok (.dup, 1) := by decide +kernel
theorem dX5_moves_98 : decode cX5_moves 98 = .ok (.getfield 142, 3) := by decide +kernel
theorem dX5_moves_101 : decode cX5_moves 101 = .ok (.iconst 1, 1) := by decide +kernel
theorem dX5_moves_102 : decode cX5_moves 102 = .ok (.iadd, 1) := by decide +kernel
theorem dX5_moves_103 : decode cX5_moves 103 = .ok (.putfield 142, 3) := by decide +kernel
theorem dX5_moves_106 : decode cX5_moves 106 = .ok (.iload_n 1, 1) := by decide +kernel
theorem dX5_moves_107 : decode cX5_moves 107 = .ok (.ifCond .eq 7, 3) := by decide +kernel
theorem dX5_moves_110 : decode cX5_moves 110 = .ok (.iconst 2, 1) := by decide +kernel
theorem dX5_moves_111 : decode cX5_moves 111 = .ok (.goto 4, 3) := by decide +kernel
theorem dX5_moves_114 : decode cX5_moves 114 = .ok (.iconst 1, 1) := by decide +kernel
theorem dX5_moves_115 : decode cX5_moves 115 = .ok (.ireturn, 1) := by decide +kernel
theorem dX5_step_0 : decode cX5_step 0 = .ok (.aload_n 0, 1) := by decide +kernel
theorem dX5_step_1 : decode cX5_step 1 = .ok (.aload_n 0, 1) := by decide +kernel
theorem dX5_step_2 : decode cX5_step 2 = .ok (.getfield 44, 3) := by decide +kernel
theorem dX5_step_5 : decode cX5_step 5 = .ok (.ifCond .eq 7, 3) := by decide +kernel
theorem dX5_step_8 : decode cX5_step 8 = .ok (.iconst 0, 1) := by decide +kernel
theorem dX5_step_9 : decode cX5_step 9 = .ok (.goto 4, 3) := by decide +kernel
theorem dX5_step_12 : decode cX5_step 12 = .ok (.iconst 1, 1) := by decide +kernel
theorem dX5_step_13 : decode cX5_step 13 = .ok (.putfield 74, 3) := by decide +kernel
theorem dX5_step_16 : decode cX5_step 16 = .ok (.aload_n 0, 1) := by decide +kernel
theorem dX5_step_17 : decode cX5_step 17 = .ok (.getfield 74, 3) := by decide +kernel
theorem dX5_step_20 : decode cX5_step 20 = .ok (.ifCond .le 5, 3) := by decide +kernel
theorem dX5_step_23 : decode cX5_step 23 = .ok (.iconst 0, 1) := by decide +kernel
theorem dX5_step_24 : decode cX5_step 24 = .ok (.ireturn, 1) := by decide +kernel
theorem dX5_step_25 : decode cX5_step 25 = .ok (.aload_n 0, 1) := by decide +kernel
theorem dX5_step_26 : decode cX5_step 26 = .ok (.invokevirtual 97, 3) := by decide +kernel
theorem dX5_step_29 : decode cX5_step 29 = .ok (.ifCond .eq 10, 3) := by decide +kernel
theorem dX5_step_32 : decode cX5_step 32 = .ok (.aload_n 0, 1) := by decide +kernel
theorem dX5_step_33 : decode cX5_step 33 = .ok (.invokevirtual 135, 3) := by decide +kernel
theorem dX5_step_36 : decode cX5_step 36 = .ok (.ifCond .eq 5, 3) := by decide +kernel
theorem dX5_step_39 : decode cX5_step 39 = .ok (.iconst (-1), 1) := by decide +kernel
theorem dX5_step_40 : decode cX5_step 40 = .ok (.ireturn, 1) := by decide +kernel
theorem dX5_step_41 : decode cX5_step 41 = .ok (.aload_n 0, 1) := by decide +kernel
theorem dX5_step_42 : decode cX5_step 42 = .ok (.invokevirtual 145, 3) := by decide +kernel
theorem dX5_step_45 : decode cX5_step 45 = .ok (.ifCond .eq 12, 3) := by decide +kernel
theorem dX5_step_48 : decode cX5_step 48 = .ok (.aload_n 0, 1) := by decide +kernel
theorem dX5_step_49 : decode cX5_step 49 = .ok (.invokevirtual 148, 3) := by decide +kernel
theorem dX5_step_52 : decode cX5_step 52 = .ok (.ifCond .ne 5, 3) := by decide +kernel
theorem dX5_step_55 : decode cX5_step 55 = .ok (.iconst 0, 1) := by decide +kernel
theorem dX5_step_56 : decode cX5_step 56 = .ok (.ireturn, 1) := by decide +kernel
theorem dX5_step_57 : decode cX5_step 57 = .ok (.aload_n 0, 1) := by decide +kernel
theorem dX5_step_58 : decode cX5_step 58 = .ok (.invokevirtual 151, 3) := by decide +kernel
theorem dX5_step_61 : decode cX5_step 61 = .ok (.ireturn, 1) := by decide +kernel
theorem dX5_fail_0 : decode cX5_fail 0 = .ok (.aload_n 0, 1) := by decide +kernel
theorem dX5_fail_1 : decode cX5_fail 1 = .ok (.iconst 0, 1) := by decide +kernel
theorem dX5_fail_2 : decode cX5_fail 2 = .ok (.putfield 74, 3) := by decide +kernel
theorem dX5_fail_5 : decode cX5_fail 5 = .ok (.iload_n 1, 1) := by decide +kernel
theorem dX5_fail_6 : decode cX5_fail 6 = .ok (.ifCond .lt 19, 3) := by decide +kernel
theorem dX5_fail_9 : decode cX5_fail 9 = .ok (.iload_n 1, 1) := by decide +kernel
theorem dX5_fail_10 : decode cX5_fail 10 = .ok (.aload_n 0, 1) := by decide +kernel
theorem dX5_fail_11 : decode cX5_fail 11 = .ok (.getfield 58, 3) := by decide +kernel
theorem dX5_fail_14 : decode cX5_fail 14 = .ok (.if_icmp .ge 11, 3) := by decide +kernel
theorem dX5_fail_17 : decode cX5_fail 17 = .ok (.aload_n 0, 1) := by decide +kernel
theorem dX5_fail_18 : decode cX5_fail 18 = .ok (.invokevirtual 154, 3) := by decide +kernel
theorem dX5_fail_21 : decode cX5_fail 21 = .ok (.iconst (-1), 1) := by decide +kernel
theorem dX5_fail_22 : decode cX5_fail 22 = .ok (.if_icmp .eq 5, 3) := by decide +kernel
theorem dX5_fail_25 : decode cX5_fail 25 = .ok (.iconst 0, 1) := by decide +kernel
theorem dX5_fail_26 : decode cX5_fail 26 = .ok (.ireturn, 1) := by decide +kernel
theorem dX5_fail_27 : decode cX5_fail 27 = .ok (.aload_n 0, 1) := by decide +kernel
theorem dX5_fail_28 : decode cX5_fail 28 = .ok (.getfield 9, 3) := by decide +kernel
theorem dX5_fail_31 : decode cX5_fail 31 = .ok (.iload_n 1, 1) := by decide +kernel
theorem dX5_fail_32 : decode cX5_fail 32 = .ok (.iconst 1, 1) := by decide +kernel
theorem dX5_fail_33 : decode cX5_fail 33 = .ok (.iastore, 1) := by decide +kernel
theorem dX5_fail_34 : decode cX5_fail 34 = .ok (.iconst 1, 1) := by decide +kernel
theorem dX5_fail_35 : decode cX5_fail 35 = .ok (.ireturn, 1) := by decide +kernel
theorem dX5_replace_0 : decode cX5_replace 0 = .ok (.aload_n 0, 1) := by decide +kernel
theorem dX5_replace_1 : decode cX5_replace 1 = .ok (.iconst 0, 1) := by decide +kernel
theorem dX5_replace_2 : decode cX5_replace 2 = .ok (.putfield 74, 3) := by decide +kernel
theorem dX5_replace_5 : decode cX5_replace 5 = .ok (.aload_n 0, 1) := by decide +kernel
theorem dX5_replace_6 : decode cX5_replace 6 = .ok (.invokevirtual 154, 3) := by decide +kernel
theorem dX5_replace_9 : decode cX5_replace 9 = .ok (.istore_n 1, 1) := by decide +kernel
theorem dX5_replace_10 : decode cX5_replace 10 = .ok (.aload_n 0, 1) := by decide +kernel
theorem dX5_replace_11 : decode cX5_replace 11 = .ok (.getfield 44, 3) := by decide +kernel
theorem dX5_replace_14 : decode cX5_replace 14 = .ok (.ifCond .eq 18, 3) := by decide +kernel
theorem dX5_replace_17 : decode cX5_replace 17 = .ok (.iload_n 1, 1) := by decide +kernel
theorem dX5_replace_18 : decode cX5_replace 18 = .ok (.iconst (-1), 1) := by decide +kernel
theorem dX5_replace_19 : decode cX5_replace 19 = .ok (.if_icmp .eq 13, 3) := by decide +kernel
theorem dX5_replace_22 : decode cX5_replace 22 = .ok (.aload_n 0, 1) := by decide +kernel
theorem dX5_replace_23 : decode cX5_replace 23 = .ok (.getfield 9, 3) := by decide +kernel
theorem dX5_replace_26 : decode cX5_replace 26 = .ok (.iload_n 1, 1) := by decide +kernel
theorem dX5_replace_27 : decode cX5_replace 27 = .ok (.iaload, 1) := by decide +kernel
theorem dX5_replace_28 : decode cX5_replace 28 = .ok (.iconst 1, 1) := by decide +kernel
theorem dX5_replace_29 : decode cX5_replace 29 = .ok (.if_icmp .eq 5, 3) := by decide +kernel
theorem dX5_replace_32 : decode cX5_replace 32 = .ok (.iconst 0, 1) := by decide +kernel
theorem dX5_replace_33 : decode cX5_replace 33 = .ok (.ireturn, 1) := by decide +kernel
theorem dX5_replace_34 : decode cX5_replace 34 = .ok (.iload_n 1, 1) := by decide +kernel
theorem dX5_replace_35 : decode cX5_replace 35 = .ok (.aload_n 0, 1) := by decide +kernel
theorem dX5_replace_36 : decode cX5_replace 36 = .ok (.getfield 67, 3) := by decide +kernel
theorem dX5_replace_39 : decode cX5_replace 39 = .ok (.if_icmp .lt 29, 3) := by decide +kernel
theorem dX5_replace_42 : decode cX5_replace 42 = .ok (.aload_n 0, 1) := by decide +kernel
theorem dX5_replace_43 : decode cX5_replace 43 = .ok (.invokevirtual 83, 3) := by decide +kernel
theorem dX5_replace_46 : decode cX5_replace 46 = .ok (.ifCond .ne 5, 3) := by decide +kernel
theorem dX5_replace_49 : decode cX5_replace 49 = .ok (.iconst 0, 1) := by decide +kernel
theorem dX5_replace_50 : decode cX5_replace 50 = .ok (.ireturn, 1) := by decide +kernel
theorem dX5_replace_51 : decode cX5_replace 51 = .ok (.aload_n 0, 1) := by decide +kernel
theorem dX5_replace_52 : decode cX5_replace 52 = .ok (.dup, 1) := by decide +kernel
theorem dX5_replace_53 : decode cX5_replace 53 = .ok (.getfield 87, 3) := by decide +kernel
theorem dX5_replace_56 : decode cX5_replace 56 = .ok (.iconst 1, 1) := by decide +kernel
theorem dX5_replace_57 : decode cX5_replace 57 = .ok (.iadd, 1) := by decide +kernel
theorem dX5_replace_58 : decode cX5_replace 58 = .ok (.putfield 87, 3) := by decide +kernel
theorem dX5_replace_61 : decode cX5_replace 61 = .ok (.aload_n 0, 1) := by decide +kernel
theorem dX5_replace_62 : decode cX5_replace 62 = .ok (.iload_n 1, 1) := by decide +kernel
theorem dX5_replace_63 : decode cX5_replace 63 = .ok (.invokevirtual 131, 3) := by decide +kernel
theorem dX5_replace_66 : decode cX5_replace 66 = .ok (.iconst 1, 1) := by decide +kernel
theorem dX5_replace_67 : decode cX5_replace 67 = .ok (.ireturn, 1) := by decide +kernel
theorem dX5_replace_68 : decode cX5_replace 68 = .ok (.aload_n 0, 1) := by decide +kernel
theorem dX5_replace_69 : decode cX5_replace 69 = .ok (.getfield 9, 3) := by decide +kernel
theorem dX5_replace_72 : decode cX5_replace 72 = .ok (.iload_n 1, 1) := by decide +kernel
theorem dX5_replace_73 : decode cX5_replace 73 = .ok (.iconst 2, 1) := by decide +kernel
theorem dX5_replace_74 : decode cX5_replace 74 = .ok (.iastore, 1) := by decide +kernel
theorem dX5_replace_75 : decode cX5_replace 75 = .ok (.aload_n 0, 1) := by decide +kernel
theorem dX5_replace_76 : decode cX5_replace 76 = .ok (.getfield 13, 3) := by decide +kernel
theorem dX5_replace_79 : decode cX5_replace 79 = .ok (.iload_n 1, 1) := by decide +kernel
theorem dX5_replace_80 : decode cX5_replace 80 = .ok (.iconst 0, 1) := by decide +kernel
theorem dX5_replace_81 : decode cX5_replace 81 = .ok (.iastore, 1) := by decide +kernel
theorem dX5_replace_82 : decode cX5_replace 82 = .ok (.aload_n 0, 1) := by decide +kernel
theorem dX5_replace_83 : decode cX5_replace 83 = .ok (.getfield 28, 3) := by decide +kernel
theorem dX5_replace_86 : decode cX5_replace 86 = .ok (.iload_n 1, 1) := by decide +kernel
theorem dX5_replace_87 : decode cX5_replace 87 = .ok (.iconst 0, 1) := by decide +kernel
theorem dX5_replace_88 : decode cX5_replace 88 = .ok (.iastore, 1) := by decide +kernel
theorem dX5_replace_89 : decode cX5_replace 89 = .ok (.aload_n 0, 1) := by decide +kernel
theorem dX5_replace_90 : decode cX5_replace 90 = .ok (.getfield 37, 3) := by decide +kernel
theorem dX5_replace_93 : decode cX5_replace 93 = .ok (.iload_n 1, 1) := by decide +kernel
theorem dX5_replace_94 : decode cX5_replace 94 = .ok (.iconst 0, 1) := by decide +kernel
theorem dX5_replace_95 : decode cX5_replace 95 = .ok (.iastore, 1) := by decide +kernel
theorem dX5_replace_96 : decode cX5_replace 96 = .ok (.aload_n 0, 1) := by decide +kernel
theorem dX5_replace_97 : decode cX5_replace 97 = .ok (.iload_n 1, 1) := by decide +kernel
theorem dX5_replace_98 : decode cX5_replace 98 = .ok (.iconst 0, 1) := by decide +kernel
theorem dX5_replace_99 : decode cX5_replace 99 = .ok (.iconst 0, 1) := by decide +kernel
theorem dX5_replace_100 : decode cX5_replace 100 = .ok (.iconst 0, 1) := by decide +kernel
theorem dX5_replace_101 : decode cX5_replace 101 = .ok (.iconst 0, 1) := by decide +kernel
theorem dX5_replace_102 : decode cX5_replace 102 = .ok (.invokevirtual 70, 3) := by decide +kernel
theorem dX5_replace_105 : decode cX5_replace 105 = .ok (.aload_n 0, 1) := by decide +kernel
theorem dX5_replace_106 : decode cX5_replace 106 = .ok (.iconst 0, 1) := by decide +kernel
theorem dX5_replace_107 : decode cX5_replace 107 = .ok (.putfield 80, 3) := by decide +kernel
theorem dX5_replace_110 : decode cX5_replace 110 = .ok (.iconst 1, 1) := by decide +kernel
theorem dX5_replace_111 : decode cX5_replace 111 = .ok (.ireturn, 1) := by decide +kernel
theorem dX5_rebuild_0 : decode cX5_rebuild 0 = .ok (.aload_n 0, 1) := by decide +kernel
theorem dX5_rebuild_1 : decode cX5_rebuild 1 = .ok (.aload_n 0, 1) := by decide +kernel
theorem dX5_rebuild_2 : decode cX5_rebuild 2 = .ok (.getfield 44, 3) := by decide +kernel
theorem dX5_rebuild_5 : decode cX5_rebuild 5 = .ok (.ifCond .eq 7, 3) := by decide +kernel
theorem dX5_rebuild_8 : decode cX5_rebuild 8 = .ok (.iconst 0, 1) := by decide +kernel
theorem dX5_rebuild_9 : decode cX5_rebuild 9 = .ok (.goto 4, 3) := by decide +kernel
theorem dX5_rebuild_12 : decode cX5_rebuild 12 = .ok (.iconst 1, 1) := by decide +kernel
theorem dX5_rebuild_13 : decode cX5_rebuild 13 = .ok (.putfield 74, 3) := by decide +kernel
theorem dX5_rebuild_16 : decode cX5_rebuild 16 = .ok (.aload_n 0, 1) := by decide +kernel
theorem dX5_rebuild_17 : decode cX5_rebuild 17 = .ok (.getfield 74, 3) := by decide +kernel
theorem dX5_rebuild_20 : decode cX5_rebuild 20 = .ok (.ifCond .le 5, 3) := by decide +kernel
theorem dX5_rebuild_23 : decode cX5_rebuild 23 = .ok (.iconst 0, 1) := by decide +kernel
theorem dX5_rebuild_24 : decode cX5_rebuild 24 = .ok (.ireturn, 1) := by decide +kernel
theorem dX5_rebuild_25 : decode cX5_rebuild 25 = .ok (.aload_n 0, 1) := by decide +kernel
theorem dX5_rebuild_26 : decode cX5_rebuild 26 = .ok (.invokevirtual 135, 3) := by decide +kernel
theorem dX5_rebuild_29 : decode cX5_rebuild 29 = .ok (.ifCond .ne 5, 3) := by decide +kernel
theorem dX5_rebuild_32 : decode cX5_rebuild 32 = .ok (.iconst (-1), 1) := by decide +kernel
theorem dX5_rebuild_33 : decode cX5_rebuild 33 = .ok (.ireturn, 1) := by decide +kernel
theorem dX5_rebuild_34 : decode cX5_rebuild 34 = .ok (.aload_n 0, 1) := by decide +kernel
theorem dX5_rebuild_35 : decode cX5_rebuild 35 = .ok (.invokevirtual 154, 3) := by decide +kernel
theorem dX5_rebuild_38 : decode cX5_rebuild 38 = .ok (.istore_n 1, 1) := by decide +kernel
theorem dX5_rebuild_39 : decode cX5_rebuild 39 = .ok (.aload_n 0, 1) := by decide +kernel
theorem dX5_rebuild_40 : decode cX5_rebuild 40 = .ok (.iload_n 1, 1) := by decide +kernel
theorem dX5_rebuild_41 : decode cX5_rebuild 41 = .ok (.invokevirtual 90, 3) := by decide +kernel
theorem dX5_rebuild_44 : decode cX5_rebuild 44 = .ok (.ifCond .ne 5, 3) := by decide +kernel
theorem dX5_rebuild_47 : decode cX5_rebuild 47 = .ok (.iconst 0, 1) := by decide +kernel
theorem dX5_rebuild_48 : decode cX5_rebuild 48 = .ok (.ireturn, 1) := by decide +kernel
theorem dX5_rebuild_49 : decode cX5_rebuild 49 = .ok (.aload_n 0, 1) := by decide +kernel
theorem dX5_rebuild_50 : decode cX5_rebuild 50 = .ok (.getfield 80, 3) := by decide +kernel
theorem dX5_rebuild_53 : decode cX5_rebuild 53 = .ok (.iconst 1, 1) := by decide +kernel
theorem dX5_rebuild_54 : decode cX5_rebuild 54 = .ok (.iadd, 1) := by decide +kernel
theorem dX5_rebuild_55 : decode cX5_rebuild 55 = .ok (.aload_n 0, 1) := by decide +kernel
theorem dX5_rebuild_56 : decode cX5_rebuild 56 = .ok (.getfield 55, 3) := by decide +kernel
theorem dX5_rebuild_59 : decode cX5_rebuild 59 = .ok (.if_icmp .ge 15, 3) := by decide +kernel
theorem dX5_rebuild_62 : decode cX5_rebuild 62 = .ok (.aload_n 0, 1) := by decide +kernel
theorem dX5_rebuild_63 : decode cX5_rebuild 63 = .ok (.dup, 1) := by decide +kernel
theorem dX5_rebuild_64 : decode cX5_rebuild 64 = .ok (.getfield 80, 3) := by decide +kernel
theorem dX5_rebuild_67 : decode cX5_rebuild 67 = .ok (.iconst 1, 1) := by decide +kernel
theorem dX5_rebuild_68 : decode cX5_rebuild 68 = .ok (.iadd, 1) := by decide +kernel
theorem dX5_rebuild_69 : decode cX5_rebuild 69 = .ok (.putfield 80, 3) := by decide +kernel
theorem dX5_rebuild_72 : decode cX5_rebuild 72 = .ok (.iconst 1, 1) := by decide +kernel
theorem dX5_rebuild_73 : decode cX5_rebuild 73 = .ok (.ireturn, 1) := by decide +kernel
theorem dX5_rebuild_74 : decode cX5_rebuild 74 = .ok (.aload_n 0, 1) := by decide +kernel
theorem dX5_rebuild_75 : decode cX5_rebuild 75 = .ok (.aload_n 0, 1) := by decide +kernel
theorem dX5_rebuild_76 : decode cX5_rebuild 76 = .ok (.getfield 64, 3) := by decide +kernel
theorem dX5_rebuild_79 : decode cX5_rebuild 79 = .ok (.aload_n 0, 1) := by decide +kernel
theorem dX5_rebuild_80 : decode cX5_rebuild 80 = .ok (.getfield 67, 3) := by decide +kernel
theorem dX5_rebuild_83 : decode cX5_rebuild 83 = .ok (.aload_n 0, 1) := by decide +kernel
theorem dX5_rebuild_84 : decode cX5_rebuild 84 = .ok (.getfield 94, 3) := by decide +kernel
theorem dX5_rebuild_87 : decode cX5_rebuild 87 = .ok (.iload_n 1, 1) := by decide +kernel
theorem dX5_rebuild_88 : decode cX5_rebuild 88 = .ok (.invokevirtual 138, 3) := by decide +kernel
theorem dX5_rebuild_91 : decode cX5_rebuild 91 = .ok (.ifCond .ne 5, 3) := by decide +kernel
theorem dX5_rebuild_94 : decode cX5_rebuild 94 = .ok (.iconst 0, 1) := by decide +kernel
theorem dX5_rebuild_95 : decode cX5_rebuild 95 = .ok (.ireturn, 1) := by decide +kernel
theorem dX5_rebuild_96 : decode cX5_rebuild 96 = .ok (.aload_n 0, 1) := by decide +kernel
theorem dX5_rebuild_97 : decode cX5_rebuild 97 = .ok (.getfield 9, 3) := by decide +kernel
theorem dX5_rebuild_100 : decode cX5_rebuild 100 = .ok (.iload_n 1, 1) := by decide +kernel
theorem dX5_rebuild_101 : decode cX5_rebuild 101 = .ok (.iconst 0, 1) := by decide +kernel
theorem dX5_rebuild_102 : decode cX5_rebuild 102 = .ok (.iastore, 1) := by decide +kernel
theorem dX5_rebuild_103 : decode cX5_rebuild 103 = .ok (.aload_n 0, 1) := by decide +kernel
theorem dX5_rebuild_104 : decode cX5_rebuild 104 = .ok (.iconst 0, 1) := by decide +kernel
theorem dX5_rebuild_105 : decode cX5_rebuild 105 = .ok (.putfield 80, 3) := by decide +kernel
theorem dX5_rebuild_108 : decode cX5_rebuild 108 = .ok (.iconst 2, 1) := by decide +kernel
theorem dX5_rebuild_109 : decode cX5_rebuild 109 = .ok (.ireturn, 1) := by decide +kernel
theorem dX5_cut_0 : decode cX5_cut 0 = .ok (.aload_n 0, 1) := by decide +kernel
theorem dX5_cut_1 : decode cX5_cut 1 = .ok (.iconst 0, 1) := by decide +kernel
theorem dX5_cut_2 : decode cX5_cut 2 = .ok (.putfield 74, 3) := by decide +kernel
theorem dX5_cut_5 : decode cX5_cut 5 = .ok (.aload_n 0, 1) := by decide +kernel
theorem dX5_cut_6 : decode cX5_cut 6 = .ok (.iload_n 1, 1) := by decide +kernel
theorem dX5_cut_7 : decode cX5_cut 7 = .ok (.ifCond .ge 7, 3) := by decide +kernel
theorem dX5_cut_10 : decode cX5_cut 10 = .ok (.iconst (-1), 1) := by decide +kernel
theorem dX5_cut_11 : decode cX5_cut 11 = .ok (.goto 4, 3) := by decide +kernel
theorem dX5_cut_14 : decode cX5_cut 14 = .ok (.iload_n 1, 1) := by decide +kernel
theorem dX5_cut_15 : decode cX5_cut 15 = .ok (.putfield 48, 3) := by decide +kernel
theorem dX5_cut_18 : decode cX5_cut 18 = .ok (.return_, 1) := by decide +kernel
theorem dX5_open_0 : decode cX5_open 0 = .ok (.aload_n 0, 1) := by decide +kernel
theorem dX5_open_1 : decode cX5_open 1 = .ok (.iconst 0, 1) := by decide +kernel
theorem dX5_open_2 : decode cX5_open 2 = .ok (.putfield 74, 3) := by decide +kernel
theorem dX5_open_5 : decode cX5_open 5 = .ok (.aload_n 0, 1) := by decide +kernel
theorem dX5_open_6 : decode cX5_open 6 = .ok (.getfield 44, 3) := by decide +kernel
theorem dX5_open_9 : decode cX5_open 9 = .ok (.ifCond .eq 5, 3) := by decide +kernel
theorem dX5_open_12 : decode cX5_open 12 = .ok (.iconst (-1), 1) := by decide +kernel
theorem dX5_open_13 : decode cX5_open 13 = .ok (.ireturn, 1) := by decide +kernel
theorem dX5_open_14 : decode cX5_open 14 = .ok (.iconst (-1), 1) := by decide +kernel
theorem dX5_open_15 : decode cX5_open 15 = .ok (.istore_n 1, 1) := by decide +kernel
theorem dX5_open_16 : decode cX5_open 16 = .ok (.iconst (-1), 1) := by decide +kernel
theorem dX5_open_17 : decode cX5_open 17 = .ok (.istore_n 2, 1) := by decide +kernel
theorem dX5_open_18 : decode cX5_open 18 = .ok (.iconst 0, 1) := by decide +kernel
theorem dX5_open_19 : decode cX5_open 19 = .ok (.istore_n 3, 1) := by decide +kernel
theorem dX5_open_20 : decode cX5_open 20 = .ok (.iconst 0, 1) := by decide +kernel
theorem dX5_open_21 : decode cX5_open 21 = .ok (.istore 4, 2) := by decide +kernel
theorem dX5_open_23 : decode cX5_open 23 = .ok (.iload 4, 2) := by decide +kernel
theorem dX5_open_25 : decode cX5_open 25 = .ok (.aload_n 0, 1) := by decide +kernel
theorem dX5_open_26 : decode cX5_open 26 = .ok (.getfield 58, 3) := by decide +kernel
theorem dX5_open_29 : decode cX5_open 29 = .ok (.if_icmp .ge 43, 3) := by decide +kernel
theorem dX5_open_32 : decode cX5_open 32 = .ok (.aload_n 0, 1) := by decide +kernel
theorem dX5_open_33 : decode cX5_open 33 = .ok (.getfield 9, 3) := by decide +kernel
theorem dX5_open_36 : decode cX5_open 36 = .ok (.iload 4, 2) := by decide +kernel
theorem dX5_open_38 : decode cX5_open 38 = .ok (.iaload, 1) := by decide +kernel
theorem dX5_open_39 : decode cX5_open 39 = .ok (.ifCond .ne 27, 3) := by decide +kernel
theorem dX5_open_42 : decode cX5_open 42 = .ok (.iload_n 1, 1) := by decide +kernel
theorem dX5_open_43 : decode cX5_open 43 = .ok (.iconst (-1), 1) := by decide +kernel
theorem dX5_open_44 : decode cX5_open 44 = .ok (.if_icmp .eq 19, 3) := by decide +kernel
theorem dX5_open_47 : decode cX5_open 47 = .ok (.aload_n 0, 1) := by decide +kernel
theorem dX5_open_48 : decode cX5_open 48 = .ok (.getfield 16, 3) := by decide +kernel
theorem dX5_open_51 : decode cX5_open 51 = .ok (.iload 4, 2) := by decide +kernel
theorem dX5_open_53 : decode cX5_open 53 = .ok (.iaload, 1) := by decide +kernel
theorem dX5_open_54 : decode cX5_open 54 = .ok (.aload_n 0, 1) := by decide +kernel
theorem dX5_open_55 : decode cX5_open 55 = .ok (.getfield 16, 3) := by decide +kernel
theorem dX5_open_58 : decode cX5_open 58 = .ok (.iload_n 1, 1) := by decide +kernel
theorem dX5_open_59 : decode cX5_open 59 = .ok (.iaload, 1) := by decide +kernel
theorem dX5_open_60 : decode cX5_open 60 = .ok (.if_icmp .le 6, 3) := by decide +kernel
theorem dX5_open_63 : decode cX5_open 63 = .ok (.iload 4, 2) := by decide +kernel
theorem dX5_open_65 : decode cX5_open 65 = .ok (.istore_n 1, 1) := by decide +kernel
theorem dX5_open_66 : decode cX5_open 66 = .ok (.iinc 4 1, 3) := by decide +kernel
theorem dX5_open_69 : decode cX5_open 69 = .ok (.goto (-46), 3) := by decide +kernel
theorem dX5_open_72 : decode cX5_open 72 = .ok (.aload_n 0, 1) := by decide +kernel
theorem dX5_open_73 : decode cX5_open 73 = .ok (.aload_n 0, 1) := by decide +kernel
theorem dX5_open_74 : decode cX5_open 74 = .ok (.getfield 16, 3) := by decide +kernel
theorem dX5_open_77 : decode cX5_open 77 = .ok (.iload_n 1, 1) := by decide +kernel
theorem dX5_open_78 : decode cX5_open 78 = .ok (.iaload, 1) := by decide +kernel
theorem dX5_open_79 : decode cX5_open 79 = .ok (.putfield 61, 3) := by decide +kernel
theorem dX5_open_82 : decode cX5_open 82 = .ok (.aload_n 0, 1) := by decide +kernel
theorem dX5_open_83 : decode cX5_open 83 = .ok (.aload_n 0, 1) := by decide +kernel
theorem dX5_open_84 : decode cX5_open 84 = .ok (.getfield 19, 3) := by decide +kernel
theorem dX5_open_87 : decode cX5_open 87 = .ok (.iload_n 1, 1) := by decide +kernel
theorem dX5_open_88 : decode cX5_open 88 = .ok (.iaload, 1) := by decide +kernel
theorem dX5_open_89 : decode cX5_open 89 = .ok (.putfield 64, 3) := by decide +kernel
theorem dX5_open_92 : decode cX5_open 92 = .ok (.aload_n 0, 1) := by decide +kernel
theorem dX5_open_93 : decode cX5_open 93 = .ok (.aload_n 0, 1) := by decide +kernel
theorem dX5_open_94 : decode cX5_open 94 = .ok (.getfield 22, 3) := by decide +kernel
theorem dX5_open_97 : decode cX5_open 97 = .ok (.iload_n 1, 1) := by decide +kernel
theorem dX5_open_98 : decode cX5_open 98 = .ok (.iaload, 1) := by decide +kernel
theorem dX5_open_99 : decode cX5_open 99 = .ok (.putfield 67, 3) := by decide +kernel
theorem dX5_open_102 : decode cX5_open 102 = .ok (.aload_n 0, 1) := by decide +kernel
theorem dX5_open_103 : decode cX5_open 103 = .ok (.aload_n 0, 1) := by decide +kernel
theorem dX5_open_104 : decode cX5_open 104 = .ok (.getfield 25, 3) := by decide +kernel
theorem dX5_open_107 : decode cX5_open 107 = .ok (.iload_n 1, 1) := by decide +kernel
theorem dX5_open_108 : decode cX5_open 108 = .ok (.iaload, 1) := by decide +kernel
theorem dX5_open_109 : decode cX5_open 109 = .ok (.putfield 94, 3) := by decide +kernel
theorem dX5_open_112 : decode cX5_open 112 = .ok (.iconst 0, 1) := by decide +kernel
theorem dX5_open_113 : decode cX5_open 113 = .ok (.istore 4, 2) := by decide +kernel
theorem dX5_open_115 : decode cX5_open 115 = .ok (.iload 4, 2) := by decide +kernel
theorem dX5_open_117 : decode cX5_open 117 = .ok (.aload_n 0, 1) := by decide +kernel
theorem dX5_open_118 : decode cX5_open 118 = .ok (.getfield 58, 3) := by decide +kernel
theorem dX5_open_121 : decode cX5_open 121 = .ok (.if_icmp .ge 69, 3) := by decide +kernel
theorem dX5_open_124 : decode cX5_open 124 = .ok (.aload_n 0, 1) := by decide +kernel
theorem dX5_open_125 : decode cX5_open 125 = .ok (.getfield 9, 3) := by decide +kernel
theorem dX5_open_128 : decode cX5_open 128 = .ok (.iload 4, 2) := by decide +kernel
theorem dX5_open_130 : decode cX5_open 130 = .ok (.iaload, 1) := by decide +kernel
theorem dX5_open_131 : decode cX5_open 131 = .ok (.ifCond .ne 53, 3) := by decide +kernel
theorem dX5_open_134 : decode cX5_open 134 = .ok (.aload_n 0, 1) := by decide +kernel
theorem dX5_open_135 : decode cX5_open 135 = .ok (.getfield 16, 3) := by decide +kernel
theorem dX5_open_138 : decode cX5_open 138 = .ok (.iload 4, 2) := by decide +kernel
theorem dX5_open_140 : decode cX5_open 140 = .ok (.iaload, 1) := by decide +kernel
theorem dX5_open_141 : decode cX5_open 141 = .ok (.aload_n 0, 1) := by decide +kernel
theorem dX5_open_142 : decode cX5_open 142 = .ok (.getfield 61, 3) := by decide +kernel
theorem dX5_open_145 : decode cX5_open 145 = .ok (.if_icmp .ne 6, 3) := by decide +kernel
theorem dX5_open_148 : decode cX5_open 148 = .ok (.goto 36, 3) := by decide +kernel
theorem dX5_open_151 : decode cX5_open 151 = .ok (.aload_n 0, 1) := by decide +kernel
theorem dX5_open_152 : decode cX5_open 152 = .ok (.iload 4, 2) := by decide +kernel
theorem dX5_open_154 : decode cX5_open 154 = .ok (.invokevirtual 90, 3) := by decide +kernel
theorem dX5_open_157 : decode cX5_open 157 = .ok (.ifCond .ne 5, 3) := by decide +kernel
theorem dX5_open_160 : decode cX5_open 160 = .ok (.iconst 0, 1) := by decide +kernel
theorem dX5_open_161 : decode cX5_open 161 = .ok (.ireturn, 1) := by decide +kernel
theorem dX5_open_162 : decode cX5_open 162 = .ok (.aload_n 0, 1) := by decide +kernel
theorem dX5_open_163 : decode cX5_open 163 = .ok (.iload 4, 2) := by decide +kernel
theorem dX5_open_165 : decode cX5_open 165 = .ok (.aload_n 0, 1) := by decide +kernel
theorem dX5_open_166 : decode cX5_open 166 = .ok (.getfield 61, 3) := by decide +kernel
theorem dX5_open_169 : decode cX5_open 169 = .ok (.aload_n 0, 1) := by decide +kernel
theorem dX5_open_170 : decode cX5_open 170 = .ok (.getfield 64, 3) := by decide +kernel
theorem dX5_open_173 : decode cX5_open 173 = .ok (.aload_n 0, 1) := by decide +kernel
theorem dX5_open_174 : decode cX5_open 174 = .ok (.getfield 67, 3) := by decide +kernel
theorem dX5_open_177 : decode cX5_open 177 = .ok (.aload_n 0, 1) := by decide +kernel
theorem dX5_open_178 : decode cX5_open 178 = .ok (.getfield 94, 3) := by decide +kernel
theorem dX5_open_181 : decode cX5_open 181 = .ok (.invokevirtual 70, 3) := by decide +kernel
theorem dX5_open_184 : decode cX5_open 184 = .ok (.iinc 4 1, 3) := by decide +kernel
theorem dX5_open_187 : decode cX5_open 187 = .ok (.goto (-72), 3) := by decide +kernel
theorem dX5_open_190 : decode cX5_open 190 = .ok (.iconst 0, 1) := by decide +kernel
theorem dX5_open_191 : decode cX5_open 191 = .ok (.istore 4, 2) := by decide +kernel
theorem dX5_open_193 : decode cX5_open 193 = .ok (.iload 4, 2) := by decide +kernel
theorem dX5_open_195 : decode cX5_open 195 = .ok (.aload_n 0, 1) := by decide +kernel
theorem dX5_open_196 : decode cX5_open 196 = .ok (.getfield 58, 3) := by decide +kernel
theorem dX5_open_199 : decode cX5_open 199 = .ok (.if_icmp .ge 106, 3) := by decide +kernel
theorem dX5_open_202 : decode cX5_open 202 = .ok (.aload_n 0, 1) := by decide +kernel
theorem dX5_open_203 : decode cX5_open 203 = .ok (.getfield 9, 3) := by decide +kernel
theorem dX5_open_206 : decode cX5_open 206 = .ok (.iload 4, 2) := by decide +kernel
theorem dX5_open_208 : decode cX5_open 208 = .ok (.iaload, 1) := by decide +kernel
theorem dX5_open_209 : decode cX5_open 209 = .ok (.ifCond .eq 6, 3) := by decide +kernel
theorem dX5_open_212 : decode cX5_open 212 = .ok (.goto 87, 3) := by decide +kernel
theorem dX5_open_215 : decode cX5_open 215 = .ok (.iload_n 3, 1) := by decide +kernel
theorem dX5_open_216 : decode cX5_open 216 = .ok (.ifCond .ne 17, 3) := by decide +kernel
theorem dX5_open_219 : decode cX5_open 219 = .ok (.aload_n 0, 1) := by decide +kernel
theorem dX5_open_220 : decode cX5_open 220 = .ok (.getfield 37, 3) := by decide +kernel
theorem dX5_open_223 : decode cX5_open 223 = .ok (.iload 4, 2) := by decide +kernel
theorem dX5_open_225 : decode cX5_open 225 = .ok (.iaload, 1) := by decide +kernel
theorem dX5_open_226 : decode cX5_open 226 = .ok (.aload_n 0, 1) := by decide +kernel
theorem dX5_open_227 : decode cX5_open 227 = .ok (.getfield 61, 3) := by decide +kernel
theorem dX5_open_230 : decode cX5_open 230 = .ok (.if_icmp .ne 7, 3) := by decide +kernel
theorem dX5_open_233 : decode cX5_open 233 = .ok (.iconst 1, 1) := by decide +kernel
theorem dX5_open_234 : decode cX5_open 234 = .ok (.goto 4, 3) := by decide +kernel
theorem dX5_open_237 : decode cX5_open 237 = .ok (.iconst 0, 1) := by decide +kernel
theorem dX5_open_238 : decode cX5_open 238 = .ok (.istore_n 3, 1) := by decide +kernel
theorem dX5_open_239 : decode cX5_open 239 = .ok (.aload_n 0, 1) := by decide +kernel
theorem dX5_open_240 : decode cX5_open 240 = .ok (.getfield 28, 3) := by decide +kernel
theorem dX5_open_243 : decode cX5_open 243 = .ok (.iload 4, 2) := by decide +kernel
theorem dX5_open_245 : decode cX5_open 245 = .ok (.iaload, 1) := by decide +kernel
theorem dX5_open_246 : decode cX5_open 246 = .ok (.ifCond .le 21, 3) := by decide +kernel
theorem dX5_open_249 : decode cX5_open 249 = .ok (.aload_n 0, 1) := by decide +kernel
theorem dX5_open_250 : decode cX5_open 250 = .ok (.getfield 31, 3) := by decide +kernel
theorem dX5_open_253 : decode cX5_open 253 = .ok (.iload 4, 2) := by decide +kernel
theorem dX5_open_255 : decode cX5_open 255 = .ok (.iaload, 1) := by decide +kernel
theorem dX5_open_256 : decode cX5_open 256 = .ok (.aload_n 0, 1) := by decide +kernel
theorem dX5_open_257 : decode cX5_open 257 = .ok (.getfield 61, 3) := by decide +kernel
theorem dX5_open_260 : decode cX5_open 260 = .ok (.if_icmp .ne 7, 3) := by decide +kernel
theorem dX5_open_263 : decode cX5_open 263 = .ok (.iconst 1, 1) := by decide +kernel
theorem dX5_open_264 : decode cX5_open 264 = .ok (.goto 4, 3) := by decide +kernel
theorem dX5_open_267 : decode cX5_open 267 = .ok (.iconst 0, 1) := by decide +kernel
theorem dX5_open_268 : decode cX5_open 268 = .ok (.istore 5, 2) := by decide +kernel
theorem dX5_open_270 : decode cX5_open 270 = .ok (.iload 5, 2) := by decide +kernel
theorem dX5_open_272 : decode cX5_open 272 = .ok (.ifCond .eq 27, 3) := by decide +kernel
theorem dX5_open_275 : decode cX5_open 275 = .ok (.iload_n 2, 1) := by decide +kernel
theorem dX5_open_276 : decode cX5_open 276 = .ok (.iconst (-1), 1) := by decide +kernel
theorem dX5_open_277 : decode cX5_open 277 = .ok (.if_icmp .eq 19, 3) := by decide +kernel
theorem dX5_open_280 : decode cX5_open 280 = .ok (.aload_n 0, 1) := by decide +kernel
theorem dX5_open_281 : decode cX5_open 281 = .ok (.getfield 28, 3) := by decide +kernel
theorem dX5_open_284 : decode cX5_open 284 = .ok (.iload 4, 2) := by decide +kernel
theorem dX5_open_286 : decode cX5_open 286 = .ok (.iaload, 1) := by decide +kernel
theorem dX5_open_287 : decode cX5_open 287 = .ok (.aload_n 0, 1) := by decide +kernel
theorem dX5_open_288 : decode cX5_open 288 = .ok (.getfield 28, 3) := by decide +kernel
theorem dX5_open_291 : decode cX5_open 291 = .ok (.iload_n 2, 1) := by decide +kernel
theorem dX5_open_292 : decode cX5_open 292 = .ok (.iaload, 1) := by decide +kernel
theorem dX5_open_293 : decode cX5_open 293 = .ok (.if_icmp .le 6, 3) := by decide +kernel
theorem dX5_open_296 : decode cX5_open 296 = .ok (.iload 4, 2) := by decide +kernel
theorem dX5_open_298 : decode cX5_open 298 = .ok (.istore_n 2, 1) := by decide +kernel
theorem dX5_open_299 : decode cX5_open 299 = .ok (.iinc 4 1, 3) := by decide +kernel
theorem dX5_open_302 : decode cX5_open 302 = .ok (.goto (-109), 3) := by decide +kernel
theorem dX5_open_305 : decode cX5_open 305 = .ok (.iconst 1, 1) := by decide +kernel
theorem dX5_open_306 : decode cX5_open 306 = .ok (.istore 4, 2) := by decide +kernel
theorem dX5_open_308 : decode cX5_open 308 = .ok (.iload_n 2, 1) := by decide +kernel
theorem dX5_open_309 : decode cX5_open 309 = .ok (.iconst (-1), 1) := by decide +kernel
theorem dX5_open_310 : decode cX5_open 310 = .ok (.if_icmp .eq 33, 3) := by decide +kernel
theorem dX5_open_313 : decode cX5_open 313 = .ok (.aload_n 0, 1) := by decide +kernel
theorem dX5_open_314 : decode cX5_open 314 = .ok (.aload_n 0, 1) := by decide +kernel
theorem dX5_open_315 : decode cX5_open 315 = .ok (.getfield 28, 3) := by decide +kernel
theorem dX5_open_318 : decode cX5_open 318 = .ok (.iload_n 2, 1) := by decide +kernel
theorem dX5_open_319 : decode cX5_open 319 = .ok (.iaload, 1) := by decide +kernel
theorem dX5_open_320 : decode cX5_open 320 = .ok (.aload_n 0, 1) := by decide +kernel
theorem dX5_open_321 : decode cX5_open 321 = .ok (.getfield 34, 3) := by decide +kernel
theorem dX5_open_324 : decode cX5_open 324 = .ok (.iload_n 2, 1) := by decide +kernel
theorem dX5_open_325 : decode cX5_open 325 = .ok (.iaload, 1) := by decide +kernel
theorem dX5_open_326 : decode cX5_open 326 = .ok (.aload_n 0, 1) := by decide +kernel
theorem dX5_open_327 : decode cX5_open 327 = .ok (.getfield 40, 3) := by decide +kernel
theorem dX5_open_330 : decode cX5_open 330 = .ok (.iload_n 2, 1) := by decide +kernel
theorem dX5_open_331 : decode cX5_open 331 = .ok (.laload, 1) := by decide +kernel
theorem dX5_open_332 : decode cX5_open 332 = .ok (.invokevirtual 127, 3) := by decide +kernel
theorem dX5_open_335 : decode cX5_open 335 = .ok (.ifCond .ne 5, 3) := by decide +kernel
theorem dX5_open_338 : decode cX5_open 338 = .ok (.iconst 0, 1) := by decide +kernel
theorem dX5_open_339 : decode cX5_open 339 = .ok (.ireturn, 1) := by decide +kernel
theorem dX5_open_340 : decode cX5_open 340 = .ok (.iinc 4 2, 3) := by decide +kernel
theorem dX5_open_343 : decode cX5_open 343 = .ok (.aload_n 0, 1) := by decide +kernel
theorem dX5_open_344 : decode cX5_open 344 = .ok (.invokevirtual 97, 3) := by decide +kernel
theorem dX5_open_347 : decode cX5_open 347 = .ok (.ifCond .eq 42, 3) := by decide +kernel
theorem dX5_open_350 : decode cX5_open 350 = .ok (.iload_n 3, 1) := by decide +kernel
theorem dX5_open_351 : decode cX5_open 351 = .ok (.ifCond .ne 10, 3) := by decide +kernel
theorem dX5_open_354 : decode cX5_open 354 = .ok (.aload_n 0, 1) := by decide +kernel
theorem dX5_open_355 : decode cX5_open 355 = .ok (.invokevirtual 145, 3) := by decide +kernel
theorem dX5_open_358 : decode cX5_open 358 = .ok (.ifCond .ne 31, 3) := by decide +kernel
theorem dX5_open_361 : decode cX5_open 361 = .ok (.iload_n 3, 1) := by decide +kernel
theorem dX5_open_362 : decode cX5_open 362 = .ok (.ifCond .eq 12, 3) := by decide +kernel
theorem dX5_open_365 : decode cX5_open 365 = .ok (.aload_n 0, 1) := by decide +kernel
theorem dX5_open_366 : decode cX5_open 366 = .ok (.invokevirtual 148, 3) := by decide +kernel
theorem dX5_open_369 : decode cX5_open 369 = .ok (.ifCond .ne 5, 3) := by decide +kernel
theorem dX5_open_372 : decode cX5_open 372 = .ok (.iconst 0, 1) := by decide +kernel
theorem dX5_open_373 : decode cX5_open 373 = .ok (.ireturn, 1) := by decide +kernel
theorem dX5_open_374 : decode cX5_open 374 = .ok (.aload_n 0, 1) := by decide +kernel
theorem dX5_open_375 : decode cX5_open 375 = .ok (.invokevirtual 151, 3) := by decide +kernel
theorem dX5_open_378 : decode cX5_open 378 = .ok (.ifCond .ne 5, 3) := by decide +kernel
theorem dX5_open_381 : decode cX5_open 381 = .ok (.iconst 0, 1) := by decide +kernel
theorem dX5_open_382 : decode cX5_open 382 = .ok (.ireturn, 1) := by decide +kernel
theorem dX5_open_383 : decode cX5_open 383 = .ok (.iinc 4 4, 3) := by decide +kernel
theorem dX5_open_386 : decode cX5_open 386 = .ok (.goto 25, 3) := by decide +kernel
theorem dX5_open_389 : decode cX5_open 389 = .ok (.aload_n 0, 1) := by decide +kernel
theorem dX5_open_390 : decode cX5_open 390 = .ok (.aload_n 0, 1) := by decide +kernel
theorem dX5_open_391 : decode cX5_open 391 = .ok (.getfield 64, 3) := by decide +kernel
theorem dX5_open_394 : decode cX5_open 394 = .ok (.aload_n 0, 1) := by decide +kernel
theorem dX5_open_395 : decode cX5_open 395 = .ok (.getfield 67, 3) := by decide +kernel
theorem dX5_open_398 : decode cX5_open 398 = .ok (.aload_n 0, 1) := by decide +kernel
theorem dX5_open_399 : decode cX5_open 399 = .ok (.getfield 94, 3) := by decide +kernel
theorem dX5_open_402 : decode cX5_open 402 = .ok (.iconst (-1), 1) := by decide +kernel
theorem dX5_open_403 : decode cX5_open 403 = .ok (.invokevirtual 138, 3) := by decide +kernel
theorem dX5_open_406 : decode cX5_open 406 = .ok (.ifCond .ne 5, 3) := by decide +kernel
theorem dX5_open_409 : decode cX5_open 409 = .ok (.iconst 0, 1) := by decide +kernel
theorem dX5_open_410 : decode cX5_open 410 = .ok (.ireturn, 1) := by decide +kernel
theorem dX5_open_411 : decode cX5_open 411 = .ok (.aload_n 0, 1) := by decide +kernel
theorem dX5_open_412 : decode cX5_open 412 = .ok (.iconst 1, 1) := by decide +kernel
theorem dX5_open_413 : decode cX5_open 413 = .ok (.putfield 44, 3) := by decide +kernel
theorem dX5_open_416 : decode cX5_open 416 = .ok (.iload 4, 2) := by decide +kernel
theorem dX5_open_418 : decode cX5_open 418 = .ok (.ireturn, 1) := by decide +kernel
