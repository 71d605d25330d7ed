theorem dX4_count_168 : decode cX4_count 168 = .ok (.ireturn, 1) := by decide +kernel
theorem dX4_count_169 : decode cX4_count 169 = .ok (.aload_n 0, 1) := by decide +kernel
theorem dX4_count_170 : decode cX4_count 170 = .ok (.getfield 221, 3) := by decide +kernel
theorem dX4_count_173 : decode cX4_count 173 = .ok (.ireturn, 1) := by decide +kernel
theorem dX4_count_174 : decode cX4_count 174 = .ok (.aload_n 0, 1) := by decide +kernel
theorem dX4_count_175 : decode cX4_count 175 = .ok (.getfield 13, 3) := by decide +kernel
theorem dX4_count_178 : decode cX4_count 178 = .ok (.ireturn, 1) := by decide +kernel
theorem dX4_count_179 : decode cX4_count 179 = .ok (.iconst (-1), 1) := by decide +kernel
theorem dX4_count_180 : decode cX4_count 180 = .ok (.ireturn, 1) := by decide +kernel
theorem dX4_astray_0 : decode cX4_astray 0 = .ok (.aload_n 0, 1) := by decide +kernel
theorem dX4_astray_1 : decode cX4_astray 1 = .ok (.getfield 54, 3) := by decide +kernel
theorem dX4_astray_4 : decode cX4_astray 4 = .ok (.ifCond .eq 10, 3) := by decide +kernel
theorem dX4_astray_7 : decode cX4_astray 7 = .ok (.aload_n 0, 1) := by decide +kernel
theorem dX4_astray_8 : decode cX4_astray 8 = .ok (.invokevirtual 224, 3) := by decide +kernel
theorem dX4_astray_11 : decode cX4_astray 11 = .ok (.ifCond .eq 5, 3) := by decide +kernel
theorem dX4_astray_14 : decode cX4_astray 14 = .ok (.iconst (-1), 1) := by decide +kernel
theorem dX4_astray_15 : decode cX4_astray 15 = .ok (.ireturn, 1) := by decide +kernel
theorem dX4_astray_16 : decode cX4_astray 16 = .ok (.iconst 0, 1) := by decide +kernel
theorem dX4_astray_17 : decode cX4_astray 17 = .ok (.istore_n 1, 1) := by decide +kernel
theorem dX4_astray_18 : decode cX4_astray 18 = .ok (.iconst 0, 1) := by decide +kernel
theorem dX4_astray_19 : decode cX4_astray 19 = .ok (.istore_n 2, 1) := by decide +kernel
theorem dX4_astray_20 : decode cX4_astray 20 = .ok (.iload_n 2, 1) := by decide +kernel
theorem dX4_astray_21 : decode cX4_astray 21 = .ok (.aload_n 0, 1) := by decide +kernel
theorem dX4_astray_22 : decode cX4_astray 22 = .ok (.getfield 13, 3) := by decide +kernel
theorem dX4_astray_25 : decode cX4_astray 25 = .ok (.if_icmp .ge 28, 3) := by decide +kernel
theorem dX4_astray_28 : decode cX4_astray 28 = .ok (.aload_n 0, 1) := by decide +kernel
theorem dX4_astray_29 : decode cX4_astray 29 = .ok (.aload_n 0, 1) := by decide +kernel
theorem dX4_astray_30 : decode cX4_astray 30 = .ok (.iload_n 2, 1) := by decide +kernel
theorem dX4_astray_31 : decode cX4_astray 31 = .ok (.invokevirtual 227, 3) := by decide +kernel
theorem dX4_astray_34 : decode cX4_astray 34 = .ok (.iload_n 2, 1) := by decide +kernel
theorem dX4_astray_35 : decode cX4_astray 35 = .ok (.iconst (-1), 1) := by decide +kernel
theorem dX4_astray_36 : decode cX4_astray 36 = .ok (.invokevirtual 230, 3) := by decide +kernel
theorem dX4_astray_39 : decode cX4_astray 39 = .ok (.lconst 0, 1) := by decide +kernel
theorem dX4_astray_40 : decode cX4_astray 40 = .ok (.lcmp, 1) := by decide +kernel
theorem dX4_astray_41 : decode cX4_astray 41 = .ok (.ifCond .eq 6, 3) := by decide +kernel
theorem dX4_astray_44 : decode cX4_astray 44 = .ok (.iinc 1 1, 3) := by decide +kernel
theorem dX4_astray_47 : decode cX4_astray 47 = .ok (.iinc 2 1, 3) := by decide +kernel
theorem dX4_astray_50 : decode cX4_astray 50 = .ok (.goto (-30), 3) := by decide +kernel
theorem dX4_astray_53 : decode cX4_astray 53 = .ok (.iload_n 1, 1) := by decide +kernel
theorem dX4_astray_54 : decode cX4_astray 54 = .ok (.ireturn, 1) := by decide +kernel
theorem dX4_sum_0 : decode cX4_sum 0 = .ok (.aload_n 0, 1) := by decide +kernel
theorem dX4_sum_1 : decode cX4_sum 1 = .ok (.invokevirtual 61, 3) := by decide +kernel
theorem dX4_sum_4 : decode cX4_sum 4 = .ok (.lconst 0, 1) := by decide +kernel
theorem dX4_sum_5 : decode cX4_sum 5 = .ok (.lstore_n 1, 1) := by decide +kernel
theorem dX4_sum_6 : decode cX4_sum 6 = .ok (.aload_n 0, 1) := by decide +kernel
theorem dX4_sum_7 : decode cX4_sum 7 = .ok (.invokevirtual 212, 3) := by decide +kernel
theorem dX4_sum_10 : decode cX4_sum 10 = .ok (.istore_n 3, 1) := by decide +kernel
theorem dX4_sum_11 : decode cX4_sum 11 = .ok (.iconst 0, 1) := by decide +kernel
theorem dX4_sum_12 : decode cX4_sum 12 = .ok (.istore 4, 2) := by decide +kernel
theorem dX4_sum_14 : decode cX4_sum 14 = .ok (.iload 4, 2) := by decide +kernel
theorem dX4_sum_16 : decode cX4_sum 16 = .ok (.iload_n 3, 1) := by decide +kernel
theorem dX4_sum_17 : decode cX4_sum 17 = .ok (.if_icmp .ge 22, 3) := by decide +kernel
theorem dX4_sum_20 : decode cX4_sum 20 = .ok (.ldc2_w 234, 3) := by decide +kernel
theorem dX4_sum_23 : decode cX4_sum 23 = .ok (.lload_n 1, 1) := by decide +kernel
theorem dX4_sum_24 : decode cX4_sum 24 = .ok (.lmul, 1) := by decide +kernel
theorem dX4_sum_25 : decode cX4_sum 25 = .ok (.aload_n 0, 1) := by decide +kernel
theorem dX4_sum_26 : decode cX4_sum 26 = .ok (.iload 4, 2) := by decide +kernel
theorem dX4_sum_28 : decode cX4_sum 28 = .ok (.invokevirtual 104, 3) := by decide +kernel
theorem dX4_sum_31 : decode cX4_sum 31 = .ok (.ladd, 1) := by decide +kernel
theorem dX4_sum_32 : decode cX4_sum 32 = .ok (.lstore_n 1, 1) := by decide +kernel
theorem dX4_sum_33 : decode cX4_sum 33 = .ok (.iinc 4 1, 3) := by decide +kernel
theorem dX4_sum_36 : decode cX4_sum 36 = .ok (.goto (-22), 3) := by decide +kernel
theorem dX4_sum_39 : decode cX4_sum 39 = .ok (.lload_n 1, 1) := by decide +kernel
theorem dX4_sum_40 : decode cX4_sum 40 = .ok (.lreturn, 1) := by decide +kernel
theorem dX4_refuseIfDown_0 : decode cX4_refuseIfDown 0 = .ok (.aload_n 0, 1) := by decide +kernel
theorem dX4_refuseIfDown_1 : decode cX4_refuseIfDown 1 = .ok (.getfield 54, 3) := by decide +kernel
theorem dX4_refuseIfDown_4 : decode cX4_refuseIfDown 4 = .ok (.ifCond .ne 13, 3) := by decide +kernel
theorem dX4_refuseIfDown_7 : decode cX4_refuseIfDown 7 = .ok (.new 236, 3) := by decide +kernel
theorem dX4_refuseIfDown_10 : decode cX4_refuseIfDown 10 = .ok (.dup, 1) := by decide +kernel
theorem dX4_refuseIfDown_11 : decode cX4_refuseIfDown 11 = .ok (.ldc 238, 2) := by decide +kernel
theorem dX4_refuseIfDown_13 : decode cX4_refuseIfDown 13 = .ok (.invokespecial 240, 3) := by decide +kernel
theorem dX4_refuseIfDown_16 : decode cX4_refuseIfDown 16 = .ok (.athrow, 1) := by decide +kernel
theorem dX4_refuseIfDown_17 : decode cX4_refuseIfDown 17 = .ok (.return_, 1) := by decide +kernel
theorem dX4_refuseIfNoPlace_0 : decode cX4_refuseIfNoPlace 0 = .ok (.aload_n 0, 1) := by decide +kernel
theorem dX4_refuseIfNoPlace_1 : decode cX4_refuseIfNoPlace 1 = .ok (.iload_n 1, 1) := by decide +kernel
theorem dX4_refuseIfNoPlace_2 : decode cX4_refuseIfNoPlace 2 = .ok (.invokevirtual 185, 3) := by decide +kernel
theorem dX4_refuseIfNoPlace_5 : decode cX4_refuseIfNoPlace 5 = .ok (.ifCond .ne 13, 3) := by decide +kernel
theorem dX4_refuseIfNoPlace_8 : decode cX4_refuseIfNoPlace 8 = .ok (.new 243, 3) := by decide +kernel
theorem dX4_refuseIfNoPlace_11 : decode cX4_refuseIfNoPlace 11 = .ok (.dup, 1) := by decide +kernel
theorem dX4_refuseIfNoPlace_12 : decode cX4_refuseIfNoPlace 12 = .ok (.ldc 245, 2) := by decide +kernel
theorem dX4_refuseIfNoPlace_14 : decode cX4_refuseIfNoPlace 14 = .ok (.invokespecial 247, 3) := by decide +kernel
theorem dX4_refuseIfNoPlace_17 : decode cX4_refuseIfNoPlace 17 = .ok (.athrow, 1) := by decide +kernel
theorem dX4_refuseIfNoPlace_18 : decode cX4_refuseIfNoPlace 18 = .ok (.return_, 1) := by decide +kernel
theorem dX4_parityDisk_0 : decode cX4_parityDisk 0 = .ok (.iload_n 0, 1) := by decide +kernel
theorem dX4_parityDisk_1 : decode cX4_parityDisk 1 = .ok (.iconst 1, 1) := by decide +kernel
theorem dX4_parityDisk_2 : decode cX4_parityDisk 2 = .ok (.if_icmp .lt 7, 3) := by decide +kernel
theorem dX4_parityDisk_5 : decode cX4_parityDisk 5 = .ok (.iload_n 1, 1) := by decide +kernel
theorem dX4_parityDisk_6 : decode cX4_parityDisk 6 = .ok (.ifCond .ge 7, 3) := by decide +kernel
theorem dX4_parityDisk_9 : decode cX4_parityDisk 9 = .ok (.iconst 0, 1) := by decide +kernel
theorem dX4_parityDisk_10 : decode cX4_parityDisk 10 = .ok (.goto 10, 3) := by decide +kernel
theorem dX4_parityDisk_13 : decode cX4_parityDisk 13 = .ok (.iload_n 0, 1) := by decide +kernel
theorem dX4_parityDisk_14 : decode cX4_parityDisk 14 = .ok (.iconst 1, 1) := by decide +kernel
theorem dX4_parityDisk_15 : decode cX4_parityDisk 15 = .ok (.isub, 1) := by decide +kernel
theorem dX4_parityDisk_16 : decode cX4_parityDisk 16 = .ok (.iload_n 1, 1) := by decide +kernel
theorem dX4_parityDisk_17 : decode cX4_parityDisk 17 = .ok (.iload_n 0, 1) := by decide +kernel
theorem dX4_parityDisk_18 : decode cX4_parityDisk 18 = .ok (.irem, 1) := by decide +kernel
theorem dX4_parityDisk_19 : decode cX4_parityDisk 19 = .ok (.isub, 1) := by decide +kernel
theorem dX4_parityDisk_20 : decode cX4_parityDisk 20 = .ok (.ireturn, 1) := by decide +kernel
theorem dX4_rowIn_0 : decode cX4_rowIn 0 = .ok (.iload_n 0, 1) := by decide +kernel
theorem dX4_rowIn_1 : decode cX4_rowIn 1 = .ok (.iconst 2, 1) := by decide +kernel
theorem dX4_rowIn_2 : decode cX4_rowIn 2 = .ok (.if_icmp .ge 7, 3) := by decide +kernel
theorem dX4_rowIn_5 : decode cX4_rowIn 5 = .ok (.iconst 0, 1) := by decide +kernel
theorem dX4_rowIn_6 : decode cX4_rowIn 6 = .ok (.goto 8, 3) := by decide +kernel
theorem dX4_rowIn_9 : decode cX4_rowIn 9 = .ok (.iload_n 1, 1) := by decide +kernel
theorem dX4_rowIn_10 : decode cX4_rowIn 10 = .ok (.iload_n 0, 1) := by decide +kernel
theorem dX4_rowIn_11 : decode cX4_rowIn 11 = .ok (.iconst 1, 1) := by decide +kernel
theorem dX4_rowIn_12 : decode cX4_rowIn 12 = .ok (.isub, 1) := by decide +kernel
theorem dX4_rowIn_13 : decode cX4_rowIn 13 = .ok (.idiv, 1) := by decide +kernel
theorem dX4_rowIn_14 : decode cX4_rowIn 14 = .ok (.ireturn, 1) := by decide +kernel
theorem dX4_diskIn_0 : decode cX4_diskIn 0 = .ok (.iload_n 0, 1) := by decide +kernel
theorem dX4_diskIn_1 : decode cX4_diskIn 1 = .ok (.iconst 2, 1) := by decide +kernel
theorem dX4_diskIn_2 : decode cX4_diskIn 2 = .ok (.if_icmp .ge 7, 3) := by decide +kernel
theorem dX4_diskIn_5 : decode cX4_diskIn 5 = .ok (.iconst 0, 1) := by decide +kernel
theorem dX4_diskIn_6 : decode cX4_diskIn 6 = .ok (.goto 22, 3) := by decide +kernel
theorem dX4_diskIn_9 : decode cX4_diskIn 9 = .ok (.iload_n 0, 1) := by decide +kernel
theorem dX4_diskIn_10 : decode cX4_diskIn 10 = .ok (.iload_n 0, 1) := by decide +kernel
theorem dX4_diskIn_11 : decode cX4_diskIn 11 = .ok (.iload_n 1, 1) := by decide +kernel
theorem dX4_diskIn_12 : decode cX4_diskIn 12 = .ok (.invokestatic 71, 3) := by decide +kernel
theorem dX4_diskIn_15 : decode cX4_diskIn 15 = .ok (.invokestatic 84, 3) := by decide +kernel
theorem dX4_diskIn_18 : decode cX4_diskIn 18 = .ok (.iconst 1, 1) := by decide +kernel
theorem dX4_diskIn_19 : decode cX4_diskIn 19 = .ok (.iadd, 1) := by decide +kernel
theorem dX4_diskIn_20 : decode cX4_diskIn 20 = .ok (.iload_n 1, 1) := by decide +kernel
theorem dX4_diskIn_21 : decode cX4_diskIn 21 = .ok (.iload_n 0, 1) := by decide +kernel
theorem dX4_diskIn_22 : decode cX4_diskIn 22 = .ok (.iconst 1, 1) := by decide +kernel
theorem dX4_diskIn_23 : decode cX4_diskIn 23 = .ok (.isub, 1) := by decide +kernel
theorem dX4_diskIn_24 : decode cX4_diskIn 24 = .ok (.irem, 1) := by decide +kernel
theorem dX4_diskIn_25 : decode cX4_diskIn 25 = .ok (.iadd, 1) := by decide +kernel
theorem dX4_diskIn_26 : decode cX4_diskIn 26 = .ok (.iload_n 0, 1) := by decide +kernel
theorem dX4_diskIn_27 : decode cX4_diskIn 27 = .ok (.irem, 1) := by decide +kernel
theorem dX4_diskIn_28 : decode cX4_diskIn 28 = .ok (.ireturn, 1) := by decide +kernel
theorem dX4_placeCount_0 : decode cX4_placeCount 0 = .ok (.aload_n 0, 1) := by decide +kernel
theorem dX4_placeCount_1 : decode cX4_placeCount 1 = .ok (.getfield 13, 3) := by decide +kernel
theorem dX4_placeCount_4 : decode cX4_placeCount 4 = .ok (.aload_n 0, 1) := by decide +kernel
theorem dX4_placeCount_5 : decode cX4_placeCount 5 = .ok (.getfield 19, 3) := by decide +kernel
theorem dX4_placeCount_8 : decode cX4_placeCount 8 = .ok (.getfield 125, 3) := by decide +kernel
theorem dX4_placeCount_11 : decode cX4_placeCount 11 = .ok (.iconst 1, 1) := by decide +kernel
theorem dX4_placeCount_12 : decode cX4_placeCount 12 = .ok (.isub, 1) := by decide +kernel
theorem dX4_placeCount_13 : decode cX4_placeCount 13 = .ok (.imul, 1) := by decide +kernel
theorem dX4_placeCount_14 : decode cX4_placeCount 14 = .ok (.ireturn, 1) := by decide +kernel
theorem dX4_isPlace_0 : decode cX4_isPlace 0 = .ok (.iload_n 1, 1) := by decide +kernel
theorem dX4_isPlace_1 : decode cX4_isPlace 1 = .ok (.ifCond .lt 15, 3) := by decide +kernel
theorem dX4_isPlace_4 : decode cX4_isPlace 4 = .ok (.iload_n 1, 1) := by decide +kernel
theorem dX4_isPlace_5 : decode cX4_isPlace 5 = .ok (.aload_n 0, 1) := by decide +kernel
theorem dX4_isPlace_6 : decode cX4_isPlace 6 = .ok (.invokevirtual 212, 3) := by decide +kernel
theorem dX4_isPlace_9 : decode cX4_isPlace 9 = .ok (.if_icmp .ge 7, 3) := by decide +kernel
theorem dX4_isPlace_12 : decode cX4_isPlace 12 = .ok (.iconst 1, 1) := by decide +kernel
theorem dX4_isPlace_13 : decode cX4_isPlace 13 = .ok (.goto 4, 3) := by decide +kernel
theorem dX4_isPlace_16 : decode cX4_isPlace 16 = .ok (.iconst 0, 1) := by decide +kernel
theorem dX4_isPlace_17 : decode cX4_isPlace 17 = .ok (.ireturn, 1) := by decide +kernel
theorem dX4_isReshaped_0 : decode cX4_isReshaped 0 = .ok (.aload_n 0, 1) := by decide +kernel
theorem dX4_isReshaped_1 : decode cX4_isReshaped 1 = .ok (.getfield 19, 3) := by decide +kernel
theorem dX4_isReshaped_4 : decode cX4_isReshaped 4 = .ok (.getfield 115, 3) := by decide +kernel
theorem dX4_isReshaped_7 : decode cX4_isReshaped 7 = .ok (.aload_n 0, 1) := by decide +kernel
theorem dX4_isReshaped_8 : decode cX4_isReshaped 8 = .ok (.getfield 19, 3) := by decide +kernel
theorem dX4_isReshaped_11 : decode cX4_isReshaped 11 = .ok (.getfield 125, 3) := by decide +kernel
theorem dX4_isReshaped_14 : decode cX4_isReshaped 14 = .ok (.if_icmp .le 7, 3) := by decide +kernel
theorem dX4_isReshaped_17 : decode cX4_isReshaped 17 = .ok (.iconst 1, 1) := by decide +kernel
theorem dX4_isReshaped_18 : decode cX4_isReshaped 18 = .ok (.goto 4, 3) := by decide +kernel
theorem dX4_isReshaped_21 : decode cX4_isReshaped 21 = .ok (.iconst 0, 1) := by decide +kernel
theorem dX4_isReshaped_22 : decode cX4_isReshaped 22 = .ok (.ireturn, 1) := by decide +kernel
theorem dX4_isMoved_0 : decode cX4_isMoved 0 = .ok (.iload_n 1, 1) := by decide +kernel
theorem dX4_isMoved_1 : decode cX4_isMoved 1 = .ok (.aload_n 0, 1) := by decide +kernel
theorem dX4_isMoved_2 : decode cX4_isMoved 2 = .ok (.getfield 19, 3) := by decide +kernel
theorem dX4_isMoved_5 : decode cX4_isMoved 5 = .ok (.getfield 170, 3) := by decide +kernel
theorem dX4_isMoved_8 : decode cX4_isMoved 8 = .ok (.aload_n 0, 1) := by decide +kernel
theorem dX4_isMoved_9 : decode cX4_isMoved 9 = .ok (.getfield 19, 3) := by decide +kernel
theorem dX4_isMoved_12 : decode cX4_isMoved 12 = .ok (.getfield 115, 3) := by decide +kernel
theorem dX4_isMoved_15 : decode cX4_isMoved 15 = .ok (.iconst 1, 1) := by decide +kernel
theorem dX4_isMoved_16 : decode cX4_isMoved 16 = .ok (.isub, 1) := by decide +kernel
theorem dX4_isMoved_17 : decode cX4_isMoved 17 = .ok (.imul, 1) := by decide +kernel
theorem dX4_isMoved_18 : decode cX4_isMoved 18 = .ok (.if_icmp .ge 7, 3) := by decide +kernel
theorem dX4_isMoved_21 : decode cX4_isMoved 21 = .ok (.iconst 1, 1) := by decide +kernel
theorem dX4_isMoved_22 : decode cX4_isMoved 22 = .ok (.goto 4, 3) := by decide +kernel
theorem dX4_isMoved_25 : decode cX4_isMoved 25 = .ok (.iconst 0, 1) := by decide +kernel
theorem dX4_isMoved_26 : decode cX4_isMoved 26 = .ok (.ireturn, 1) := by decide +kernel
theorem dX4_widthOf_0 : decode cX4_widthOf 0 = .ok (.aload_n 0, 1) := by decide +kernel
theorem dX4_widthOf_1 : decode cX4_widthOf 1 = .ok (.iload_n 1, 1) := by decide +kernel
theorem dX4_widthOf_2 : decode cX4_widthOf 2 = .ok (.invokevirtual 188, 3) := by decide +kernel
theorem dX4_widthOf_5 : decode cX4_widthOf 5 = .ok (.ifCond .eq 13, 3) := by decide +kernel
theorem dX4_widthOf_8 : decode cX4_widthOf 8 = .ok (.aload_n 0, 1) := by decide +kernel
theorem dX4_widthOf_9 : decode cX4_widthOf 9 = .ok (.getfield 19, 3) := by decide +kernel
theorem dX4_widthOf_12 : decode cX4_widthOf 12 = .ok (.getfield 115, 3) := by decide +kernel
theorem dX4_widthOf_15 : decode cX4_widthOf 15 = .ok (.goto 10, 3) := by decide +kernel
theorem dX4_widthOf_18 : decode cX4_widthOf 18 = .ok (.aload_n 0, 1) := by decide +kernel
theorem dX4_widthOf_19 : decode cX4_widthOf 19 = .ok (.getfield 19, 3) := by decide +kernel
theorem dX4_widthOf_22 : decode cX4_widthOf 22 = .ok (.getfield 125, 3) := by decide +kernel
theorem dX4_widthOf_25 : decode cX4_widthOf 25 = .ok (.ireturn, 1) := by decide +kernel
theorem dX4_widthOfRow_0 : decode cX4_widthOfRow 0 = .ok (.iload_n 1, 1) := by decide +kernel
theorem dX4_widthOfRow_1 : decode cX4_widthOfRow 1 = .ok (.aload_n 0, 1) := by decide +kernel
theorem dX4_widthOfRow_2 : decode cX4_widthOfRow 2 = .ok (.getfield 19, 3) := by decide +kernel
theorem dX4_widthOfRow_5 : decode cX4_widthOfRow 5 = .ok (.getfield 170, 3) := by decide +kernel
theorem dX4_widthOfRow_8 : decode cX4_widthOfRow 8 = .ok (.if_icmp .ge 13, 3) := by decide +kernel
theorem dX4_widthOfRow_11 : decode cX4_widthOfRow 11 = .ok (.aload_n 0, 1) := by decide +kernel
theorem dX4_widthOfRow_12 : decode cX4_widthOfRow 12 = .ok (.getfield 19, 3) := by decide +kernel
theorem dX4_widthOfRow_15 : decode cX4_widthOfRow 15 = .ok (.getfield 115, 3) := by decide +kernel
theorem dX4_widthOfRow_18 : decode cX4_widthOfRow 18 = .ok (.goto 10, 3) := by decide +kernel
theorem dX4_widthOfRow_21 : decode cX4_widthOfRow 21 = .ok (.aload_n 0, 1) := by decide +kernel
theorem dX4_widthOfRow_22 : decode cX4_widthOfRow 22 = .ok (.getfield 19, 3) := by decide +kernel
theorem dX4_widthOfRow_25 : decode cX4_widthOfRow 25 = .ok (.getfield 125, 3) := by decide +kernel
theorem dX4_widthOfRow_28 : decode cX4_widthOfRow 28 = .ok (.ireturn, 1) := by decide +kernel
theorem dX4_isThere_0 : decode cX4_isThere 0 = .ok (.iload_n 1, 1) := by decide +kernel
theorem dX4_isThere_1 : decode cX4_isThere 1 = .ok (.ifCond .lt 15, 3) := by decide +kernel
theorem dX4_isThere_4 : decode cX4_isThere 4 = .ok (.iload_n 1, 1) := by decide +kernel
theorem dX4_isThere_5 : decode cX4_isThere 5 = .ok (.aload_n 0, 1) := by decide +kernel
theorem dX4_isThere_6 : decode cX4_isThere 6 = .ok (.getfield 7, 3) := by decide +kernel
theorem dX4_isThere_9 : decode cX4_isThere 9 = .ok (.if_icmp .ge 7, 3) := by decide +kernel
theorem dX4_isThere_12 : decode cX4_isThere 12 = .ok (.iconst 1, 1) := by decide +kernel
theorem dX4_isThere_13 : decode cX4_isThere 13 = .ok (.goto 4, 3) := by decide +kernel
theorem dX4_isThere_16 : decode cX4_isThere 16 = .ok (.iconst 0, 1) := by decide +kernel
theorem dX4_isThere_17 : decode cX4_isThere 17 = .ok (.ireturn, 1) := by decide +kernel
theorem dX4_isSpare_0 : decode cX4_isSpare 0 = .ok (.iload_n 1, 1) := by decide +kernel
theorem dX4_isSpare_1 : decode cX4_isSpare 1 = .ok (.aload_n 0, 1) := by decide +kernel
theorem dX4_isSpare_2 : decode cX4_isSpare 2 = .ok (.getfield 19, 3) := by decide +kernel
theorem dX4_isSpare_5 : decode cX4_isSpare 5 = .ok (.getfield 115, 3) := by decide +kernel
theorem dX4_isSpare_8 : decode cX4_isSpare 8 = .ok (.if_icmp .lt 7, 3) := by decide +kernel
theorem dX4_isSpare_11 : decode cX4_isSpare 11 = .ok (.iconst 1, 1) := by decide +kernel
theorem dX4_isSpare_12 : decode cX4_isSpare 12 = .ok (.goto 4, 3) := by decide +kernel
theorem dX4_isSpare_15 : decode cX4_isSpare 15 = .ok (.iconst 0, 1) := by decide +kernel
theorem dX4_isSpare_16 : decode cX4_isSpare 16 = .ok (.ireturn, 1) := by decide +kernel
theorem dX4_isLive_0 : decode cX4_isLive 0 = .ok (.aload_n 0, 1) := by decide +kernel
theorem dX4_isLive_1 : decode cX4_isLive 1 = .ok (.iload_n 1, 1) := by decide +kernel
theorem dX4_isLive_2 : decode cX4_isLive 2 = .ok (.invokevirtual 143, 3) := by decide +kernel
theorem dX4_isLive_5 : decode cX4_isLive 5 = .ok (.ifCond .eq 19, 3) := by decide +kernel
theorem dX4_isLive_8 : decode cX4_isLive 8 = .ok (.aload_n 0, 1) := by decide +kernel
theorem dX4_isLive_9 : decode cX4_isLive 9 = .ok (.getfield 40, 3) := by decide +kernel
theorem dX4_isLive_12 : decode cX4_isLive 12 = .ok (.iload_n 1, 1) := by decide +kernel
theorem dX4_isLive_13 : decode cX4_isLive 13 = .ok (.aaload, 1) := by decide +kernel
theorem dX4_isLive_14 : decode cX4_isLive 14 = .ok (.invokevirtual 248, 3) := by decide +kernel
theorem dX4_isLive_17 : decode cX4_isLive 17 = .ok (.ifCond .eq 7, 3) := by decide +kernel
theorem dX4_isLive_20 : decode cX4_isLive 20 = .ok (.iconst 1, 1) := by decide +kernel
theorem dX4_isLive_21 : decode cX4_isLive 21 = .ok (.goto 4, 3) := by decide +kernel
theorem dX4_isLive_24 : decode cX4_isLive 24 = .ok (.iconst 0, 1) := by decide +kernel
theorem dX4_isLive_25 : decode cX4_isLive 25 = .ok (.ireturn, 1) := by decide +kernel
theorem dX4_diskNotLive_0 : decode cX4_diskNotLive 0 = .ok (.iconst 0, 1) := by decide +kernel
theorem dX4_diskNotLive_1 : decode cX4_diskNotLive 1 = .ok (.istore_n 1, 1) := by decide +kernel
theorem dX4_diskNotLive_2 : decode cX4_diskNotLive 2 = .ok (.iload_n 1, 1) := by decide +kernel
theorem dX4_diskNotLive_3 : decode cX4_diskNotLive 3 = .ok (.aload_n 0, 1) := by decide +kernel
theorem dX4_diskNotLive_4 : decode cX4_diskNotLive 4 = .ok (.getfield 7, 3) := by decide +kernel
theorem dX4_diskNotLive_7 : decode cX4_diskNotLive 7 = .ok (.if_icmp .ge 23, 3) := by decide +kernel
theorem dX4_diskNotLive_10 : decode cX4_diskNotLive 10 = .ok (.aload_n 0, 1) := by decide +kernel
theorem dX4_diskNotLive_11 : decode cX4_diskNotLive 11 = .ok (.getfield 40, 3) := by decide +kernel
theorem dX4_diskNotLive_14 : decode cX4_diskNotLive 14 = .ok (.iload_n 1, 1) := by decide +kernel
theorem dX4_diskNotLive_15 : decode cX4_diskNotLive 15 = .ok (.aaload, 1) := by decide +kernel
theorem dX4_diskNotLive_16 : decode cX4_diskNotLive 16 = .ok (.invokevirtual 248, 3) := by decide +kernel
theorem dX4_diskNotLive_19 : decode cX4_diskNotLive 19 = .ok (.ifCond .ne 5, 3) := by decide +kernel
theorem dX4_diskNotLive_22 : decode cX4_diskNotLive 22 = .ok (.iload_n 1, 1) := by decide +kernel
theorem dX4_diskNotLive_23 : decode cX4_diskNotLive 23 = .ok (.ireturn, 1) := by decide +kernel
theorem dX4_diskNotLive_24 : decode cX4_diskNotLive 24 = .ok (.iinc 1 1, 3) := by decide +kernel
theorem dX4_diskNotLive_27 : decode cX4_diskNotLive 27 = .ok (.goto (-25), 3) := by decide +kernel
theorem dX4_diskNotLive_30 : decode cX4_diskNotLive 30 = .ok (.iconst (-1), 1) := by decide +kernel
theorem dX4_diskNotLive_31 : decode cX4_diskNotLive 31 = .ok (.ireturn, 1) := by decide +kernel
theorem dX4_rebuildingDisk_0 : decode cX4_rebuildingDisk 0 = .ok (.aload_n 0, 1) := by decide +kernel
theorem dX4_rebuildingDisk_1 : decode cX4_rebuildingDisk 1 = .ok (.invokevirtual 147, 3) := by decide +kernel
theorem dX4_rebuildingDisk_4 : decode cX4_rebuildingDisk 4 = .ok (.istore_n 1, 1) := by decide +kernel
theorem dX4_rebuildingDisk_5 : decode cX4_rebuildingDisk 5 = .ok (.iload_n 1, 1) := by decide +kernel
theorem dX4_rebuildingDisk_6 : decode cX4_rebuildingDisk 6 = .ok (.iconst (-1), 1) := by decide +kernel
theorem dX4_rebuildingDisk_7 : decode cX4_rebuildingDisk 7 = .ok (.if_icmp .eq 19, 3) := by decide +kernel
theorem dX4_rebuildingDisk_10 : decode cX4_rebuildingDisk 10 = .ok (.aload_n 0, 1) := by decide +kernel
theorem dX4_rebuildingDisk_11 : decode cX4_rebuildingDisk 11 = .ok (.getfield 40, 3) := by decide +kernel
theorem dX4_rebuildingDisk_14 : decode cX4_rebuildingDisk 14 = .ok (.iload_n 1, 1) := by decide +kernel
theorem dX4_rebuildingDisk_15 : decode cX4_rebuildingDisk 15 = .ok (.aaload, 1) := by decide +kernel
theorem dX4_rebuildingDisk_16 : decode cX4_rebuildingDisk 16 = .ok (.invokevirtual 251, 3) := by decide +kernel
theorem dX4_rebuildingDisk_19 : decode cX4_rebuildingDisk 19 = .ok (.ifCond .eq 7, 3) := by decide +kernel
theorem dX4_rebuildingDisk_22 : decode cX4_rebuildingDisk 22 = .ok (.iload_n 1, 1) := by decide +kernel
theorem dX4_rebuildingDisk_23 : decode cX4_rebuildingDisk 23 = .ok (.goto 4, 3) := by decide +kernel
theorem dX4_rebuildingDisk_26 : decode cX4_rebuildingDisk 26 = .ok (.iconst (-1), 1) := by decide +kernel
theorem dX4_rebuildingDisk_27 : decode cX4_rebuildingDisk 27 = .ok (.ireturn, 1) := by decide +kernel
theorem dX4_isRebuilt_0 : decode cX4_isRebuilt 0 = .ok (.aload_n 0, 1) := by decide +kernel
theorem dX4_isRebuilt_1 : decode cX4_isRebuilt 1 = .ok (.iload_n 1, 1) := by decide +kernel
theorem dX4_isRebuilt_2 : decode cX4_isRebuilt 2 = .ok (.invokevirtual 143, 3) := by decide +kernel
theorem dX4_isRebuilt_5 : decode cX4_isRebuilt 5 = .ok (.ifCond .eq 27, 3) := by decide +kernel
theorem dX4_isRebuilt_8 : decode cX4_isRebuilt 8 = .ok (.aload_n 0, 1) := by decide +kernel
theorem dX4_isRebuilt_9 : decode cX4_isRebuilt 9 = .ok (.getfield 40, 3) := by decide +kernel
theorem dX4_isRebuilt_12 : decode cX4_isRebuilt 12 = .ok (.iload_n 1, 1) := by decide +kernel
theorem dX4_isRebuilt_13 : decode cX4_isRebuilt 13 = .ok (.aaload, 1) := by decide +kernel
theorem dX4_isRebuilt_14 : decode cX4_isRebuilt 14 = .ok (.invokevirtual 251, 3) := by decide +kernel
theorem dX4_isRebuilt_17 : decode cX4_isRebuilt 17 = .ok (.ifCond .eq 15, 3) := by decide +kernel
theorem dX4_isRebuilt_20 : decode cX4_isRebuilt 20 = .ok (.iload_n 2, 1) := by decide +kernel
theorem dX4_isRebuilt_21 : decode cX4_isRebuilt 21 = .ok (.aload_n 0, 1) := by decide +kernel
theorem dX4_isRebuilt_22 : decode cX4_isRebuilt 22 = .ok (.getfield 159, 3) := by decide +kernel
theorem dX4_isRebuilt_25 : decode cX4_isRebuilt 25 = .ok (.if_icmp .ge 7, 3) := by decide +kernel
theorem dX4_isRebuilt_28 : decode cX4_isRebuilt 28 = .ok (.iconst 1, 1) := by decide +kernel
theorem dX4_isRebuilt_29 : decode cX4_isRebuilt 29 = .ok (.goto 4, 3) := by decide +kernel
theorem dX4_isRebuilt_32 : decode cX4_isRebuilt 32 = .ok (.iconst 0, 1) := by decide +kernel
theorem dX4_isRebuilt_33 : decode cX4_isRebuilt 33 = .ok (.ireturn, 1) := by decide +kernel
theorem dX4_isArrayDegraded_0 : decode cX4_isArrayDegraded 0 = .ok (.aload_n 0, 1) := by decide +kernel
theorem dX4_isArrayDegraded_1 : decode cX4_isArrayDegraded 1 = .ok (.invokevirtual 147, 3) := by decide +kernel
theorem dX4_isArrayDegraded_4 : decode cX4_isArrayDegraded 4 = .ok (.istore_n 1, 1) := by decide +kernel
theorem dX4_isArrayDegraded_5 : decode cX4_isArrayDegraded 5 = .ok (.iload_n 1, 1) := by decide +kernel
theorem dX4_isArrayDegraded_6 : decode cX4_isArrayDegraded 6 = .ok (.iconst (-1), 1) := by decide +kernel
theorem dX4_isArrayDegraded_7 : decode cX4_isArrayDegraded 7 = .ok (.if_icmp .eq 15, 3) := by decide +kernel
theorem dX4_isArrayDegraded_10 : decode cX4_isArrayDegraded 10 = .ok (.aload_n 0, 1) := by decide +kernel
theorem dX4_isArrayDegraded_11 : decode cX4_isArrayDegraded 11 = .ok (.iload_n 1, 1) := by decide +kernel
theorem dX4_isArrayDegraded_12 : decode cX4_isArrayDegraded 12 = .ok (.invokevirtual 153, 3) := by decide +kernel
theorem dX4_isArrayDegraded_15 : decode cX4_isArrayDegraded 15 = .ok (.ifCond .ne 7, 3) := by decide +kernel
theorem dX4_isArrayDegraded_18 : decode cX4_isArrayDegraded 18 = .ok (.iconst 1, 1) := by decide +kernel
theorem dX4_isArrayDegraded_19 : decode cX4_isArrayDegraded 19 = .ok (.goto 4, 3) := by decide +kernel
theorem dX4_isArrayDegraded_22 : decode cX4_isArrayDegraded 22 = .ok (.iconst 0, 1) := by decide +kernel
theorem dX4_isArrayDegraded_23 : decode cX4_isArrayDegraded 23 = .ok (.ireturn, 1) := by decide +kernel
theorem dX4_exclusiveOr_0 : decode cX4_exclusiveOr 0 = .ok (.lconst 0, 1) := by decide +kernel
theorem dX4_exclusiveOr_1 : decode cX4_exclusiveOr 1 = .ok (.lstore 4, 2) := by decide +kernel
theorem dX4_exclusiveOr_3 : decode cX4_exclusiveOr 3 = .ok (.iconst 0, 1) := by decide +kernel
theorem dX4_exclusiveOr_4 : decode cX4_exclusiveOr 4 = .ok (.istore 6, 2) := by decide +kernel
theorem dX4_exclusiveOr_6 : decode cX4_exclusiveOr 6 = .ok (.iload 6, 2) := by decide +kernel
theorem dX4_exclusiveOr_8 : decode cX4_exclusiveOr 8 = .ok (.iload_n 1, 1) := by decide +kernel
theorem dX4_exclusiveOr_9 : decode cX4_exclusiveOr 9 = .ok (.if_icmp .ge 38, 3) := by decide +kernel
theorem dX4_exclusiveOr_12 : decode cX4_exclusiveOr 12 = .ok (.iload 6, 2) := by decide +kernel
theorem dX4_exclusiveOr_14 : decode cX4_exclusiveOr 14 = .ok (.bipush 10, 2) := by decide +kernel
theorem dX4_exclusiveOr_16 : decode cX4_exclusiveOr 16 = .ok (.if_icmp .ge 31, 3) := by decide +kernel
theorem dX4_exclusiveOr_19 : decode cX4_exclusiveOr 19 = .ok (.iload 6, 2) := by decide +kernel
theorem dX4_exclusiveOr_21 : decode cX4_exclusiveOr 21 = .ok (.iload_n 3, 1) := by decide +kernel
theorem dX4_exclusiveOr_22 : decode cX4_exclusiveOr 22 = .ok (.if_icmp .eq 19, 3) := by decide +kernel
theorem dX4_exclusiveOr_25 : decode cX4_exclusiveOr 25 = .ok (.lload 4, 2) := by decide +kernel
theorem dX4_exclusiveOr_27 : decode cX4_exclusiveOr 27 = .ok (.aload_n 0, 1) := by decide +kernel
theorem dX4_exclusiveOr_28 : decode cX4_exclusiveOr 28 = .ok (.getfield 40, 3) := by decide +kernel
theorem dX4_exclusiveOr_31 : decode cX4_exclusiveOr 31 = .ok (.iload 6, 2) := by decide +kernel
theorem dX4_exclusiveOr_33 : decode cX4_exclusiveOr 33 = .ok (.aaload, 1) := by decide +kernel
theorem dX4_exclusiveOr_34 : decode cX4_exclusiveOr 34 = .ok (.iload_n 2, 1) := by decide +kernel
theorem dX4_exclusiveOr_35 : decode cX4_exclusiveOr 35 = .ok (.invokevirtual 254, 3) := by decide +kernel
theorem dX4_exclusiveOr_38 : decode cX4_exclusiveOr 38 = .ok (.lxor, 1) := by decide +kernel
theorem dX4_exclusiveOr_39 : decode cX4_exclusiveOr 39 = .ok (.lstore 4, 2) := by decide +kernel
theorem dX4_exclusiveOr_41 : decode cX4_exclusiveOr 41 = .ok (.iinc 6 1, 3) := by decide +kernel
theorem dX4_exclusiveOr_44 : decode cX4_exclusiveOr 44 = .ok (.goto (-38), 3) := by decide +kernel
theorem dX4_exclusiveOr_47 : decode cX4_exclusiveOr 47 = .ok (.lload 4, 2) := by decide +kernel
theorem dX4_exclusiveOr_49 : decode cX4_exclusiveOr 49 = .ok (.lreturn, 1) := by decide +kernel
theorem dX4_blockOf_0 : decode cX4_blockOf 0 = .ok (.aload_n 0, 1) := by decide +kernel
theorem dX4_blockOf_1 : decode cX4_blockOf 1 = .ok (.iload_n 3, 1) := by decide +kernel
theorem dX4_blockOf_2 : decode cX4_blockOf 2 = .ok (.invokevirtual 257, 3) := by decide +kernel
theorem dX4_blockOf_5 : decode cX4_blockOf 5 = .ok (.ifCond .eq 16, 3) := by decide +kernel
theorem dX4_blockOf_8 : decode cX4_blockOf 8 = .ok (.aload_n 0, 1) := by decide +kernel
theorem dX4_blockOf_9 : decode cX4_blockOf 9 = .ok (.getfield 40, 3) := by decide +kernel
theorem dX4_blockOf_12 : decode cX4_blockOf 12 = .ok (.iload_n 3, 1) := by decide +kernel
theorem dX4_blockOf_13 : decode cX4_blockOf 13 = .ok (.aaload, 1) := by decide +kernel
theorem dX4_blockOf_14 : decode cX4_blockOf 14 = .ok (.iload_n 2, 1) := by decide +kernel
theorem dX4_blockOf_15 : decode cX4_blockOf 15 = .ok (.invokevirtual 254, 3) := by decide +kernel
theorem dX4_blockOf_18 : decode cX4_blockOf 18 = .ok (.goto 10, 3) := by decide +kernel
theorem dX4_blockOf_21 : decode cX4_blockOf 21 = .ok (.aload_n 0, 1) := by decide +kernel
theorem dX4_blockOf_22 : decode cX4_blockOf 22 = .ok (.iload_n 1, 1) := by decide +kernel
theorem dX4_blockOf_23 : decode cX4_blockOf 23 = .ok (.iload_n 2, 1) := by decide +kernel
theorem dX4_blockOf_24 : decode cX4_blockOf 24 = .ok (.iload_n 3, 1) := by decide +kernel
theorem dX4_blockOf_25 : decode cX4_blockOf 25 = .ok (.invokevirtual 230, 3) := by decide +kernel
theorem dX4_blockOf_28 : decode cX4_blockOf 28 = .ok (.lreturn, 1) := by decide +kernel
theorem dX4_valueOf_0 : decode cX4_valueOf 0 = .ok (.aload_n 0, 1) := by decide +kernel
theorem dX4_valueOf_1 : decode cX4_valueOf 1 = .ok (.iload_n 1, 1) := by decide +kernel
theorem dX4_valueOf_2 : decode cX4_valueOf 2 = .ok (.invokevirtual 67, 3) := by decide +kernel
theorem dX4_valueOf_5 : decode cX4_valueOf 5 = .ok (.istore_n 2, 1) := by decide +kernel
theorem dX4_valueOf_6 : decode cX4_valueOf 6 = .ok (.aload_n 0, 1) := by decide +kernel
theorem dX4_valueOf_7 : decode cX4_valueOf 7 = .ok (.iload_n 2, 1) := by decide +kernel
theorem dX4_valueOf_8 : decode cX4_valueOf 8 = .ok (.iload_n 2, 1) := by decide +kernel
theorem dX4_valueOf_9 : decode cX4_valueOf 9 = .ok (.iload_n 1, 1) := by decide +kernel
theorem dX4_valueOf_10 : decode cX4_valueOf 10 = .ok (.invokestatic 71, 3) := by decide +kernel
theorem dX4_valueOf_13 : decode cX4_valueOf 13 = .ok (.iload_n 2, 1) := by decide +kernel
theorem dX4_valueOf_14 : decode cX4_valueOf 14 = .ok (.iload_n 1, 1) := by decide +kernel
theorem dX4_valueOf_15 : decode cX4_valueOf 15 = .ok (.invokestatic 75, 3) := by decide +kernel
theorem dX4_valueOf_18 : decode cX4_valueOf 18 = .ok (.invokevirtual 259, 3) := by decide +kernel
theorem dX4_valueOf_21 : decode cX4_valueOf 21 = .ok (.lreturn, 1) := by decide +kernel
theorem dX4_parityWith_0 : decode cX4_parityWith 0 = .ok (.iload_n 1, 1) := by decide +kernel
theorem dX4_parityWith_1 : decode cX4_parityWith 1 = .ok (.iload_n 2, 1) := by decide +kernel
theorem dX4_parityWith_2 : decode cX4_parityWith 2 = .ok (.invokestatic 84, 3) := by decide +kernel
theorem dX4_parityWith_5 : decode cX4_parityWith 5 = .ok (.istore 6, 2) := by decide +kernel
theorem dX4_parityWith_7 : decode cX4_parityWith 7 = .ok (.lload 4, 2) := by decide +kernel
theorem dX4_parityWith_9 : decode cX4_parityWith 9 = .ok (.lstore 7, 2) := by decide +kernel
theorem dX4_parityWith_11 : decode cX4_parityWith 11 = .ok (.iconst 0, 1) := by decide +kernel
theorem dX4_parityWith_12 : decode cX4_parityWith 12 = .ok (.istore 9, 2) := by decide +kernel
theorem dX4_parityWith_14 : decode cX4_parityWith 14 = .ok (.iload 9, 2) := by decide +kernel
theorem dX4_parityWith_16 : decode cX4_parityWith 16 = .ok (.iload_n 1, 1) := by decide +kernel
theorem dX4_parityWith_17 : decode cX4_parityWith 17 = .ok (.if_icmp .ge 35, 3) := by decide +kernel
theorem dX4_parityWith_20 : decode cX4_parityWith 20 = .ok (.iload 9, 2) := by decide +kernel
theorem dX4_parityWith_22 : decode cX4_parityWith 22 = .ok (.iload 6, 2) := by decide +kernel
theorem dX4_parityWith_24 : decode cX4_parityWith 24 = .ok (.if_icmp .eq 22, 3) := by decide +kernel
theorem dX4_parityWith_27 : decode cX4_parityWith 27 = .ok (.iload 9, 2) := by decide +kernel
theorem dX4_parityWith_29 : decode cX4_parityWith 29 = .ok (.iload_n 3, 1) := by decide +kernel
theorem dX4_parityWith_30 : decode cX4_parityWith 30 = .ok (.if_icmp .eq 16, 3) := by decide +kernel
theorem dX4_parityWith_33 : decode cX4_parityWith 33 = .ok (.lload 7, 2) := by decide +kernel
theorem dX4_parityWith_35 : decode cX4_parityWith 35 = .ok (.aload_n 0, 1) := by decide +kernel
theorem dX4_parityWith_36 : decode cX4_parityWith 36 = .ok (.iload_n 1, 1) := by decide +kernel
theorem dX4_parityWith_37 : decode cX4_parityWith 37 = .ok (.iload_n 2, 1) := by decide +kernel
theorem dX4_parityWith_38 : decode cX4_parityWith 38 = .ok (.iload 9, 2) := by decide +kernel
theorem dX4_parityWith_40 : decode cX4_parityWith 40 = .ok (.invokevirtual 259, 3) := by decide +kernel
theorem dX4_parityWith_43 : decode cX4_parityWith 43 = .ok (.lxor, 1) := by decide +kernel
theorem dX4_parityWith_44 : decode cX4_parityWith 44 = .ok (.lstore 7, 2) := by decide +kernel
theorem dX4_parityWith_46 : decode cX4_parityWith 46 = .ok (.iinc 9 1, 3) := by decide +kernel
theorem dX4_parityWith_49 : decode cX4_parityWith 49 = .ok (.goto (-35), 3) := by decide +kernel
theorem dX4_parityWith_52 : decode cX4_parityWith 52 = .ok (.lload 7, 2) := by decide +kernel
theorem dX4_parityWith_54 : decode cX4_parityWith 54 = .ok (.lreturn, 1) := by decide +kernel
theorem dX4_blockDue_0 : decode cX4_blockDue 0 = .ok (.aload_n 0, 1) := by decide +kernel
theorem dX4_blockDue_1 : decode cX4_blockDue 1 = .ok (.iload_n 2, 1) := by decide +kernel
theorem dX4_blockDue_2 : decode cX4_blockDue 2 = .ok (.invokevirtual 227, 3) := by decide +kernel
theorem dX4_blockDue_5 : decode cX4_blockDue 5 = .ok (.istore_n 3, 1) := by decide +kernel
theorem dX4_blockDue_6 : decode cX4_blockDue 6 = .ok (.iload_n 1, 1) := by decide +kernel
theorem dX4_blockDue_7 : decode cX4_blockDue 7 = .ok (.iload_n 3, 1) := by decide +kernel
theorem dX4_blockDue_8 : decode cX4_blockDue 8 = .ok (.if_icmp .ge 13, 3) := by decide +kernel
theorem dX4_blockDue_11 : decode cX4_blockDue 11 = .ok (.aload_n 0, 1) := by decide +kernel
theorem dX4_blockDue_12 : decode cX4_blockDue 12 = .ok (.iload_n 3, 1) := by decide +kernel
theorem dX4_blockDue_13 : decode cX4_blockDue 13 = .ok (.iload_n 2, 1) := by decide +kernel
theorem dX4_blockDue_14 : decode cX4_blockDue 14 = .ok (.iload_n 1, 1) := by decide +kernel
theorem dX4_blockDue_15 : decode cX4_blockDue 15 = .ok (.invokevirtual 230, 3) := by decide +kernel
theorem dX4_blockDue_18 : decode cX4_blockDue 18 = .ok (.goto 4, 3) := by decide +kernel
theorem dX4_blockDue_21 : decode cX4_blockDue 21 = .ok (.lconst 0, 1) := by decide +kernel
theorem dX4_blockDue_22 : decode cX4_blockDue 22 = .ok (.lreturn, 1) := by decide +kernel
theorem dX4_spendWrite_0 : decode cX4_spendWrite 0 = .ok (.aload_n 0, 1) := by decide +kernel
theorem dX4_spendWrite_1 : decode cX4_spendWrite 1 = .ok (.getfield 54, 3) := by decide +kernel
theorem dX4_spendWrite_4 : decode cX4_spendWrite 4 = .ok (.ifCond .ne 5, 3) := by decide +kernel
theorem dX4_spendWrite_7 : decode cX4_spendWrite 7 = .ok (.iconst 0, 1) := by decide +kernel
theorem dX4_spendWrite_8 : decode cX4_spendWrite 8 = .ok (.ireturn, 1) := by decide +kernel
theorem dX4_spendWrite_9 : decode cX4_spendWrite 9 = .ok (.aload_n 0, 1) := by decide +kernel
theorem dX4_spendWrite_10 : decode cX4_spendWrite 10 = .ok (.getfield 58, 3) := by decide +kernel
theorem dX4_spendWrite_13 : decode cX4_spendWrite 13 = .ok (.ifCond .ne 25, 3) := by decide +kernel
theorem dX4_spendWrite_16 : decode cX4_spendWrite 16 = .ok (.aload_n 0, 1) := by decide +kernel
theorem dX4_spendWrite_17 : decode cX4_spendWrite 17 = .ok (.iconst 0, 1) := by decide +kernel
theorem dX4_spendWrite_18 : decode cX4_spendWrite 18 = .ok (.putfield 54, 3) := by decide +kernel
theorem dX4_spendWrite_21 : decode cX4_spendWrite 21 = .ok (.aload_n 0, 1) := by decide +kernel
theorem dX4_spendWrite_22 : decode cX4_spendWrite 22 = .ok (.dup, 1) := by decide +kernel
theorem dX4_spendWrite_23 : decode cX4_spendWrite 23 = .ok (.getfield 221, 3) := by decide +kernel
theorem dX4_spendWrite_26 : decode cX4_spendWrite 26 = .ok (.iconst 1, 1) := by decide +kernel
theorem dX4_spendWrite_27 : decode cX4_spendWrite 27 = .ok (.iadd, 1) := by decide +kernel
theorem dX4_spendWrite_28 : decode cX4_spendWrite 28 = .ok (.putfield 221, 3) := by decide +kernel
theorem dX4_spendWrite_31 : decode cX4_spendWrite 31 = .ok (.aload_n 0, 1) := by decide +kernel
theorem dX4_spendWrite_32 : decode cX4_spendWrite 32 = .ok (.iconst (-1), 1) := by decide +kernel
theorem dX4_spendWrite_33 : decode cX4_spendWrite 33 = .ok (.putfield 58, 3) := by decide +kernel
theorem dX4_spendWrite_36 : decode cX4_spendWrite 36 = .ok (.iconst 0, 1) := by decide +kernel
theorem dX4_spendWrite_37 : decode cX4_spendWrite 37 = .ok (.ireturn, 1) := by decide +kernel
theorem dX4_spendWrite_38 : decode cX4_spendWrite 38 = .ok (.aload_n 0, 1) := by decide +kernel
theorem dX4_spendWrite_39 : decode cX4_spendWrite 39 = .ok (.getfield 58, 3) := by decide +kernel
theorem dX4_spendWrite_42 : decode cX4_spendWrite 42 = .ok (.ifCond .le 13, 3) := by decide +kernel
theorem dX4_spendWrite_45 : decode cX4_spendWrite 45 = .ok (.aload_n 0, 1) := by decide +kernel
theorem dX4_spendWrite_46 : decode cX4_spendWrite 46 = .ok (.dup, 1) := by decide +kernel
theorem dX4_spendWrite_47 : decode cX4_spendWrite 47 = .ok (.getfield 58, 3) := by decide +kernel
theorem dX4_spendWrite_50 : decode cX4_spendWrite 50 = .ok (.iconst 1, 1) := by decide +kernel
theorem dX4_spendWrite_51 : decode cX4_spendWrite 51 = .ok (.isub, 1) := by decide +kernel
theorem dX4_spendWrite_52 : decode cX4_spendWrite 52 = .ok (.putfield 58, 3) := by decide +kernel
theorem dX4_spendWrite_55 : decode cX4_spendWrite 55 = .ok (.aload_n 0, 1) := by decide +kernel
theorem dX4_spendWrite_56 : decode cX4_spendWrite 56 = .ok (.dup, 1) := by decide +kernel
theorem dX4_spendWrite_57 : decode cX4_spendWrite 57 = .ok (.getfield 215, 3) := by decide +kernel
theorem dX4_spendWrite_60 : decode cX4_spendWrite 60 = .ok (.iconst 1, 1) := by decide +kernel
theorem dX4_spendWrite_61 : decode cX4_spendWrite 61 = .ok (.iadd, 1) := by decide +kernel
theorem dX4_spendWrite_62 : decode cX4_spendWrite 62 = .ok (.putfield 215, 3) := by decide +kernel
theorem dX4_spendWrite_65 : decode cX4_spendWrite 65 = .ok (.iconst 1, 1) := by decide +kernel
theorem dX4_spendWrite_66 : decode cX4_spendWrite 66 = .ok (.ireturn, 1) := by decide +kernel
theorem dX4_writeBlock_0 : decode cX4_writeBlock 0 = .ok (.aload_n 0, 1) := by decide +kernel
theorem dX4_writeBlock_1 : decode cX4_writeBlock 1 = .ok (.iload_n 1, 1) := by decide +kernel
theorem dX4_writeBlock_2 : decode cX4_writeBlock 2 = .ok (.invokevirtual 257, 3) := by decide +kernel
theorem dX4_writeBlock_5 : decode cX4_writeBlock 5 = .ok (.ifCond .ne 12, 3) := by decide +kernel
theorem dX4_writeBlock_8 : decode cX4_writeBlock 8 = .ok (.aload_n 0, 1) := by decide +kernel
theorem dX4_writeBlock_9 : decode cX4_writeBlock 9 = .ok (.iload_n 1, 1) := by decide +kernel
theorem dX4_writeBlock_10 : decode cX4_writeBlock 10 = .ok (.iload_n 2, 1) := by decide +kernel
theorem dX4_writeBlock_11 : decode cX4_writeBlock 11 = .ok (.invokevirtual 262, 3) := by decide +kernel
theorem dX4_writeBlock_14 : decode cX4_writeBlock 14 = .ok (.ifCond .eq 21, 3) := by decide +kernel
theorem dX4_writeBlock_17 : decode cX4_writeBlock 17 = .ok (.aload_n 0, 1) := by decide +kernel
theorem dX4_writeBlock_18 : decode cX4_writeBlock 18 = .ok (.invokevirtual 108, 3) := by decide +kernel
theorem dX4_writeBlock_21 : decode cX4_writeBlock 21 = .ok (.ifCond .eq 14, 3) := by decide +kernel
theorem dX4_writeBlock_24 : decode cX4_writeBlock 24 = .ok (.aload_n 0, 1) := by decide +kernel
theorem dX4_writeBlock_25 : decode cX4_writeBlock 25 = .ok (.getfield 40, 3) := by decide +kernel
theorem dX4_writeBlock_28 : decode cX4_writeBlock 28 = .ok (.iload_n 1, 1) := by decide +kernel
theorem dX4_writeBlock_29 : decode cX4_writeBlock 29 = .ok (.aaload, 1) := by decide +kernel
theorem dX4_writeBlock_30 : decode cX4_writeBlock 30 = .ok (.iload_n 2, 1) := by decide +kernel
theorem dX4_writeBlock_31 : decode cX4_writeBlock 31 = .ok (.lload_n 3, 1) := by decide +kernel
theorem dX4_writeBlock_32 : decode cX4_writeBlock 32 = .ok (.invokevirtual 166, 3) := by decide +kernel
theorem dX4_writeBlock_35 : decode cX4_writeBlock 35 = .ok (.return_, 1) := by decide +kernel
theorem dX4_setSuper_0 : decode cX4_setSuper 0 = .ok (.aload_n 0, 1) := by decide +kernel
theorem dX4_setSuper_1 : decode cX4_setSuper 1 = .ok (.getfield 19, 3) := by decide +kernel
theorem dX4_setSuper_4 : decode cX4_setSuper 4 = .ok (.getfield 81, 3) := by decide +kernel
theorem dX4_setSuper_7 : decode cX4_setSuper 7 = .ok (.iconst 1, 1) := by decide +kernel
theorem dX4_setSuper_8 : decode cX4_setSuper 8 = .ok (.iadd, 1) := by decide +kernel
theorem dX4_setSuper_9 : decode cX4_setSuper 9 = .ok (.istore 5, 2) := by decide +kernel
theorem dX4_setSuper_11 : decode cX4_setSuper 11 = .ok (.iconst 0, 1) := by decide +kernel
theorem dX4_setSuper_12 : decode cX4_setSuper 12 = .ok (.istore 6, 2) := by decide +kernel
theorem dX4_setSuper_14 : decode cX4_setSuper 14 = .ok (.iload 6, 2) := by decide +kernel
theorem dX4_setSuper_16 : decode cX4_setSuper 16 = .ok (.aload_n 0, 1) := by decide +kernel
theorem dX4_setSuper_17 : decode cX4_setSuper 17 = .ok (.getfield 7, 3) := by decide +kernel
theorem dX4_setSuper_20 : decode cX4_setSuper 20 = .ok (.if_icmp .ge 47, 3) := by decide +kernel
theorem dX4_setSuper_23 : decode cX4_setSuper 23 = .ok (.aload_n 0, 1) := by decide +kernel
theorem dX4_setSuper_24 : decode cX4_setSuper 24 = .ok (.iload 6, 2) := by decide +kernel
theorem dX4_setSuper_26 : decode cX4_setSuper 26 = .ok (.invokevirtual 257, 3) := by decide +kernel
theorem dX4_setSuper_29 : decode cX4_setSuper 29 = .ok (.ifCond .ne 10, 3) := by decide +kernel
theorem dX4_setSuper_32 : decode cX4_setSuper 32 = .ok (.iload 6, 2) := by decide +kernel
theorem dX4_setSuper_34 : decode cX4_setSuper 34 = .ok (.iload 4, 2) := by decide +kernel
theorem dX4_setSuper_36 : decode cX4_setSuper 36 = .ok (.if_icmp .ne 25, 3) := by decide +kernel
theorem dX4_setSuper_39 : decode cX4_setSuper 39 = .ok (.aload_n 0, 1) := by decide +kernel
theorem dX4_setSuper_40 : decode cX4_setSuper 40 = .ok (.invokevirtual 108, 3) := by decide +kernel
theorem dX4_setSuper_43 : decode cX4_setSuper 43 = .ok (.ifCond .eq 18, 3) := by decide +kernel
theorem dX4_setSuper_46 : decode cX4_setSuper 46 = .ok (.aload_n 0, 1) := by decide +kernel
theorem dX4_setSuper_47 : decode cX4_setSuper 47 = .ok (.getfield 40, 3) := by decide +kernel
theorem dX4_setSuper_50 : decode cX4_setSuper 50 = .ok (.iload 6, 2) := by decide +kernel
theorem dX4_setSuper_52 : decode cX4_setSuper 52 = .ok (.aaload, 1) := by decide +kernel
theorem dX4_setSuper_53 : decode cX4_setSuper 53 = .ok (.iload 5, 2) := by decide +kernel
theorem dX4_setSuper_55 : decode cX4_setSuper 55 = .ok (.iload_n 1, 1) := by decide +kernel
theorem dX4_setSuper_56 : decode cX4_setSuper 56 = .ok (.iload_n 2, 1) := by decide +kernel
theorem dX4_setSuper_57 : decode cX4_setSuper 57 = .ok (.iload_n 3, 1) := by decide +kernel
theorem dX4_setSuper_58 : decode cX4_setSuper 58 = .ok (.invokevirtual 266, 3) := by decide +kernel
theorem dX4_setSuper_61 : decode cX4_setSuper 61 = .ok (.iinc 6 1, 3) := by decide +kernel
theorem dX4_setSuper_64 : decode cX4_setSuper 64 = .ok (.goto (-50), 3) := by decide +kernel
theorem dX4_setSuper_67 : decode cX4_setSuper 67 = .ok (.aload_n 0, 1) := by decide +kernel
theorem dX4_setSuper_68 : decode cX4_setSuper 68 = .ok (.getfield 54, 3) := by decide +kernel
theorem dX4_setSuper_71 : decode cX4_setSuper 71 = .ok (.ifCond .eq 15, 3) := by decide +kernel
theorem dX4_setSuper_74 : decode cX4_setSuper 74 = .ok (.aload_n 0, 1) := by decide +kernel
theorem dX4_setSuper_75 : decode cX4_setSuper 75 = .ok (.getfield 19, 3) := by decide +kernel
theorem dX4_setSuper_78 : decode cX4_setSuper 78 = .ok (.iload 5, 2) := by decide +kernel
theorem dX4_setSuper_80 : decode cX4_setSuper 80 = .ok (.iload_n 1, 1) := by decide +kernel
theorem dX4_setSuper_81 : decode cX4_setSuper 81 = .ok (.iload_n 2, 1) := by decide +kernel
theorem dX4_setSuper_82 : decode cX4_setSuper 82 = .ok (.iload_n 3, 1) := by decide +kernel
theorem dX4_setSuper_83 : decode cX4_setSuper 83 = .ok (.invokevirtual 23, 3) := by decide +kernel
theorem dX4_setSuper_86 : decode cX4_setSuper 86 = .ok (.return_, 1) := by decide +kernel
theorem dX4_carryOutOrder_0 : decode cX4_carryOutOrder 0 = .ok (.iconst 0, 1) := by decide +kernel
theorem dX4_carryOutOrder_1 : decode cX4_carryOutOrder 1 = .ok (.istore_n 1, 1) := by decide +kernel
theorem dX4_carryOutOrder_2 : decode cX4_carryOutOrder 2 = .ok (.iconst 0, 1) := by decide +kernel
theorem dX4_carryOutOrder_3 : decode cX4_carryOutOrder 3 = .ok (.istore_n 2, 1) := by decide +kernel
theorem dX4_carryOutOrder_4 : decode cX4_carryOutOrder 4 = .ok (.iload_n 2, 1) := by decide +kernel
theorem dX4_carryOutOrder_5 : decode cX4_carryOutOrder 5 = .ok (.aload_n 0, 1) := by decide +kernel
theorem dX4_carryOutOrder_6 : decode cX4_carryOutOrder 6 = .ok (.getfield 7, 3) := by decide +kernel
theorem dX4_carryOutOrder_9 : decode cX4_carryOutOrder 9 = .ok (.if_icmp .ge 45, 3) := by decide +kernel
theorem dX4_carryOutOrder_12 : decode cX4_carryOutOrder 12 = .ok (.iload_n 1, 1) := by decide +kernel
theorem dX4_carryOutOrder_13 : decode cX4_carryOutOrder 13 = .ok (.iconst 2, 1) := by decide +kernel
theorem dX4_carryOutOrder_14 : decode cX4_carryOutOrder 14 = .ok (.if_icmp .ge 40, 3) := by decide +kernel
theorem dX4_carryOutOrder_17 : decode cX4_carryOutOrder 17 = .ok (.aload_n 0, 1) := by decide +kernel
theorem dX4_carryOutOrder_18 : decode cX4_carryOutOrder 18 = .ok (.iload_n 2, 1) := by decide +kernel
theorem dX4_carryOutOrder_19 : decode cX4_carryOutOrder 19 = .ok (.invokevirtual 257, 3) := by decide +kernel
theorem dX4_carryOutOrder_22 : decode cX4_carryOutOrder 22 = .ok (.ifCond .eq 26, 3) := by decide +kernel
theorem dX4_carryOutOrder_25 : decode cX4_carryOutOrder 25 = .ok (.iinc 1 1, 3) := by decide +kernel
theorem dX4_carryOutOrder_28 : decode cX4_carryOutOrder 28 = .ok (.aload_n 0, 1) := by decide +kernel
theorem dX4_carryOutOrder_29 : decode cX4_carryOutOrder 29 = .ok (.invokevirtual 108, 3) := by decide +kernel
theorem dX4_carryOutOrder_32 : decode cX4_carryOutOrder 32 = .ok (.ifCond .eq 16, 3) := by decide +kernel
theorem dX4_carryOutOrder_35 : decode cX4_carryOutOrder 35 = .ok (.aload_n 0, 1) := by decide +kernel
theorem dX4_carryOutOrder_36 : decode cX4_carryOutOrder 36 = .ok (.getfield 40, 3) := by decide +kernel
theorem dX4_carryOutOrder_39 : decode cX4_carryOutOrder 39 = .ok (.iload_n 2, 1) := by decide +kernel
theorem dX4_carryOutOrder_40 : decode cX4_carryOutOrder 40 = .ok (.aaload, 1) := by decide +kernel
theorem dX4_carryOutOrder_41 : decode cX4_carryOutOrder 41 = .ok (.aload_n 0, 1) := by decide +kernel
theorem dX4_carryOutOrder_42 : decode cX4_carryOutOrder 42 = .ok (.getfield 30, 3) := by decide +kernel
theorem dX4_carryOutOrder_45 : decode cX4_carryOutOrder 45 = .ok (.invokevirtual 268, 3) := by decide +kernel
theorem dX4_carryOutOrder_48 : decode cX4_carryOutOrder 48 = .ok (.iinc 2 1, 3) := by decide +kernel
theorem dX4_carryOutOrder_51 : decode cX4_carryOutOrder 51 = .ok (.goto (-47), 3) := by decide +kernel
theorem dX4_carryOutOrder_54 : decode cX4_carryOutOrder 54 = .ok (.aload_n 0, 1) := by decide +kernel
theorem dX4_carryOutOrder_55 : decode cX4_carryOutOrder 55 = .ok (.aload_n 0, 1) := by decide +kernel
theorem dX4_carryOutOrder_56 : decode cX4_carryOutOrder 56 = .ok (.getfield 30, 3) := by decide +kernel
theorem dX4_carryOutOrder_59 : decode cX4_carryOutOrder 59 = .ok (.getfield 272, 3) := by decide +kernel
theorem dX4_carryOutOrder_62 : decode cX4_carryOutOrder 62 = .ok (.aload_n 0, 1) := by decide +kernel
theorem dX4_carryOutOrder_63 : decode cX4_carryOutOrder 63 = .ok (.getfield 30, 3) := by decide +kernel
theorem dX4_carryOutOrder_66 : decode cX4_carryOutOrder 66 = .ok (.getfield 275, 3) := by decide +kernel
theorem dX4_carryOutOrder_69 : decode cX4_carryOutOrder 69 = .ok (.aload_n 0, 1) := by decide +kernel
theorem dX4_carryOutOrder_70 : decode cX4_carryOutOrder 70 = .ok (.getfield 30, 3) := by decide +kernel
theorem dX4_carryOutOrder_73 : decode cX4_carryOutOrder 73 = .ok (.getfield 90, 3) := by decide +kernel
theorem dX4_carryOutOrder_76 : decode cX4_carryOutOrder 76 = .ok (.invokevirtual 278, 3) := by decide +kernel
theorem dX4_carryOutOrder_79 : decode cX4_carryOutOrder 79 = .ok (.aload_n 0, 1) := by decide +kernel
theorem dX4_carryOutOrder_80 : decode cX4_carryOutOrder 80 = .ok (.aload_n 0, 1) := by decide +kernel
theorem dX4_carryOutOrder_81 : decode cX4_carryOutOrder 81 = .ok (.getfield 30, 3) := by decide +kernel
theorem dX4_carryOutOrder_84 : decode cX4_carryOutOrder 84 = .ok (.getfield 282, 3) := by decide +kernel
theorem dX4_carryOutOrder_87 : decode cX4_carryOutOrder 87 = .ok (.aload_n 0, 1) := by decide +kernel
theorem dX4_carryOutOrder_88 : decode cX4_carryOutOrder 88 = .ok (.getfield 30, 3) := by decide +kernel
theorem dX4_carryOutOrder_91 : decode cX4_carryOutOrder 91 = .ok (.getfield 275, 3) := by decide +kernel
theorem dX4_carryOutOrder_94 : decode cX4_carryOutOrder 94 = .ok (.aload_n 0, 1) := by decide +kernel
theorem dX4_carryOutOrder_95 : decode cX4_carryOutOrder 95 = .ok (.getfield 30, 3) := by decide +kernel
theorem dX4_carryOutOrder_98 : decode cX4_carryOutOrder 98 = .ok (.getfield 98, 3) := by decide +kernel
theorem dX4_carryOutOrder_101 : decode cX4_carryOutOrder 101 = .ok (.invokevirtual 278, 3) := by decide +kernel
theorem dX4_carryOutOrder_104 : decode cX4_carryOutOrder 104 = .ok (.return_, 1) := by decide +kernel
theorem dX4_isCritical_0 : decode cX4_isCritical 0 = .ok (.aload_n 0, 1) := by decide +kernel
theorem dX4_isCritical_1 : decode cX4_isCritical 1 = .ok (.getfield 19, 3) := by decide +kernel
theorem dX4_isCritical_4 : decode cX4_isCritical 4 = .ok (.getfield 170, 3) := by decide +kernel
theorem dX4_isCritical_7 : decode cX4_isCritical 7 = .ok (.aload_n 0, 1) := by decide +kernel
theorem dX4_isCritical_8 : decode cX4_isCritical 8 = .ok (.getfield 19, 3) := by decide +kernel
theorem dX4_isCritical_11 : decode cX4_isCritical 11 = .ok (.getfield 115, 3) := by decide +kernel
theorem dX4_isCritical_14 : decode cX4_isCritical 14 = .ok (.aload_n 0, 1) := by decide +kernel
theorem dX4_isCritical_15 : decode cX4_isCritical 15 = .ok (.getfield 19, 3) := by decide +kernel
theorem dX4_isCritical_18 : decode cX4_isCritical 18 = .ok (.getfield 125, 3) := by decide +kernel
theorem dX4_isCritical_21 : decode cX4_isCritical 21 = .ok (.isub, 1) := by decide +kernel
theorem dX4_isCritical_22 : decode cX4_isCritical 22 = .ok (.imul, 1) := by decide +kernel
theorem dX4_isCritical_23 : decode cX4_isCritical 23 = .ok (.aload_n 0, 1) := by decide +kernel
theorem dX4_isCritical_24 : decode cX4_isCritical 24 = .ok (.getfield 19, 3) := by decide +kernel
theorem dX4_isCritical_27 : decode cX4_isCritical 27 = .ok (.getfield 125, 3) := by decide +kernel
theorem dX4_isCritical_30 : decode cX4_isCritical 30 = .ok (.iconst 1, 1) := by decide +kernel
theorem dX4_isCritical_31 : decode cX4_isCritical 31 = .ok (.isub, 1) := by decide +kernel
theorem dX4_isCritical_32 : decode cX4_isCritical 32 = .ok (.if_icmp .ge 7, 3) := by decide +kernel
theorem dX4_isCritical_35 : decode cX4_isCritical 35 = .ok (.iconst 1, 1) := by decide +kernel
theorem dX4_isCritical_36 : decode cX4_isCritical 36 = .ok (.goto 4, 3) := by decide +kernel
theorem dX4_isCritical_39 : decode cX4_isCritical 39 = .ok (.iconst 0, 1) := by decide +kernel
theorem dX4_isCritical_40 : decode cX4_isCritical 40 = .ok (.ireturn, 1) := by decide +kernel
theorem dX4_gatherRowValues_0 : decode cX4_gatherRowValues 0 = .ok (.aload_n 0, 1) := by decide +kernel
theorem dX4_gatherRowValues_1 : decode cX4_gatherRowValues 1 = .ok (.getfield 19, 3) := by decide +kernel
theorem dX4_gatherRowValues_4 : decode cX4_gatherRowValues 4 = .ok (.getfield 170, 3) := by decide +kernel
theorem dX4_gatherRowValues_7 : decode cX4_gatherRowValues 7 = .ok (.aload_n 0, 1) := by decide +kernel
theorem dX4_gatherRowValues_8 : decode cX4_gatherRowValues 8 = .ok (.getfield 19, 3) := by decide +kernel
theorem dX4_gatherRowValues_11 : decode cX4_gatherRowValues 11 = .ok (.getfield 115, 3) := by decide +kernel
theorem dX4_gatherRowValues_14 : decode cX4_gatherRowValues 14 = .ok (.iconst 1, 1) := by decide +kernel
theorem dX4_gatherRowValues_15 : decode cX4_gatherRowValues 15 = .ok (.isub, 1) := by decide +kernel
theorem dX4_gatherRowValues_16 : decode cX4_gatherRowValues 16 = .ok (.imul, 1) := by decide +kernel
theorem dX4_gatherRowValues_17 : decode cX4_gatherRowValues 17 = .ok (.istore_n 1, 1) := by decide +kernel
theorem dX4_gatherRowValues_18 : decode cX4_gatherRowValues 18 = .ok (.iconst 0, 1) := by decide +kernel
theorem dX4_gatherRowValues_19 : decode cX4_gatherRowValues 19 = .ok (.istore_n 2, 1) := by decide +kernel
theorem dX4_gatherRowValues_20 : decode cX4_gatherRowValues 20 = .ok (.iload_n 2, 1) := by decide +kernel
theorem dX4_gatherRowValues_21 : decode cX4_gatherRowValues 21 = .ok (.aload_n 0, 1) := by decide +kernel
theorem dX4_gatherRowValues_22 : decode cX4_gatherRowValues 22 = .ok (.getfield 19, 3) := by decide +kernel
theorem dX4_gatherRowValues_25 : decode cX4_gatherRowValues 25 = .ok (.getfield 115, 3) := by decide +kernel
theorem dX4_gatherRowValues_28 : decode cX4_gatherRowValues 28 = .ok (.iconst 1, 1) := by decide +kernel
theorem dX4_gatherRowValues_29 : decode cX4_gatherRowValues 29 = .ok (.isub, 1) := by decide +kernel
theorem dX4_gatherRowValues_30 : decode cX4_gatherRowValues 30 = .ok (.if_icmp .ge 45, 3) := by decide +kernel
theorem dX4_gatherRowValues_33 : decode cX4_gatherRowValues 33 = .ok (.iload_n 2, 1) := by decide +kernel
theorem dX4_gatherRowValues_34 : decode cX4_gatherRowValues 34 = .ok (.aload_n 0, 1) := by decide +kernel
theorem dX4_gatherRowValues_35 : decode cX4_gatherRowValues 35 = .ok (.getfield 34, 3) := by decide +kernel
theorem dX4_gatherRowValues_38 : decode cX4_gatherRowValues 38 = .ok (.arraylength, 1) := by decide +kernel
theorem dX4_gatherRowValues_39 : decode cX4_gatherRowValues 39 = .ok (.if_icmp .ge 36, 3) := by decide +kernel
theorem dX4_gatherRowValues_42 : decode cX4_gatherRowValues 42 = .ok (.aload_n 0, 1) := by decide +kernel
