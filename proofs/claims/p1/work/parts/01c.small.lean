theorem dX0_init_0 : decode cX0_init 0 = .ok (.aload_n 0, 1) := by decide +kernel
theorem dX0_init_1 : decode cX0_init 1 = .ok (.invokespecial 3, 3) := by decide +kernel
theorem dX0_init_4 : decode cX0_init 4 = .ok (.aload_n 0, 1) := by decide +kernel
theorem dX0_init_5 : decode cX0_init 5 = .ok (.bipush 10, 2) := by decide +kernel
theorem dX0_init_7 : decode cX0_init 7 = .ok (.newarray .long, 2) := by decide +kernel
theorem dX0_init_9 : decode cX0_init 9 = .ok (.putfield 9, 3) := by decide +kernel
theorem dX0_init_12 : decode cX0_init 12 = .ok (.return_, 1) := by decide +kernel
theorem dX0_isBlank_0 : decode cX0_isBlank 0 = .ok (.aload_n 0, 1) := by decide +kernel
theorem dX0_isBlank_1 : decode cX0_isBlank 1 = .ok (.getfield 15, 3) := by decide +kernel
theorem dX0_isBlank_4 : decode cX0_isBlank 4 = .ok (.ifCond .ne 7, 3) := by decide +kernel
theorem dX0_isBlank_7 : decode cX0_isBlank 7 = .ok (.iconst 1, 1) := by decide +kernel
theorem dX0_isBlank_8 : decode cX0_isBlank 8 = .ok (.goto 4, 3) := by decide +kernel
theorem dX0_isBlank_11 : decode cX0_isBlank 11 = .ok (.iconst 0, 1) := by decide +kernel
theorem dX0_isBlank_12 : decode cX0_isBlank 12 = .ok (.ireturn, 1) := by decide +kernel
theorem dX0_tell_0 : decode cX0_tell 0 = .ok (.aload_n 0, 1) := by decide +kernel
theorem dX0_tell_1 : decode cX0_tell 1 = .ok (.iload_n 1, 1) := by decide +kernel
theorem dX0_tell_2 : decode cX0_tell 2 = .ok (.putfield 15, 3) := by decide +kernel
theorem dX0_tell_5 : decode cX0_tell 5 = .ok (.iconst 0, 1) := by decide +kernel
theorem dX0_tell_6 : decode cX0_tell 6 = .ok (.istore_n 3, 1) := by decide +kernel
theorem dX0_tell_7 : decode cX0_tell 7 = .ok (.iload_n 3, 1) := by decide +kernel
theorem dX0_tell_8 : decode cX0_tell 8 = .ok (.aload_n 0, 1) := by decide +kernel
theorem dX0_tell_9 : decode cX0_tell 9 = .ok (.getfield 9, 3) := by decide +kernel
theorem dX0_tell_12 : decode cX0_tell 12 = .ok (.arraylength, 1) := by decide +kernel
theorem dX0_tell_13 : decode cX0_tell 13 = .ok (.if_icmp .ge 24, 3) := by decide +kernel
theorem dX0_tell_16 : decode cX0_tell 16 = .ok (.iload_n 3, 1) := by decide +kernel
theorem dX0_tell_17 : decode cX0_tell 17 = .ok (.aload_n 2, 1) := by decide +kernel
theorem dX0_tell_18 : decode cX0_tell 18 = .ok (.arraylength, 1) := by decide +kernel
theorem dX0_tell_19 : decode cX0_tell 19 = .ok (.if_icmp .ge 18, 3) := by decide +kernel
theorem dX0_tell_22 : decode cX0_tell 22 = .ok (.aload_n 0, 1) := by decide +kernel
theorem dX0_tell_23 : decode cX0_tell 23 = .ok (.getfield 9, 3) := by decide +kernel
theorem dX0_tell_26 : decode cX0_tell 26 = .ok (.iload_n 3, 1) := by decide +kernel
theorem dX0_tell_27 : decode cX0_tell 27 = .ok (.aload_n 2, 1) := by decide +kernel
theorem dX0_tell_28 : decode cX0_tell 28 = .ok (.iload_n 3, 1) := by decide +kernel
theorem dX0_tell_29 : decode cX0_tell 29 = .ok (.laload, 1) := by decide +kernel
theorem dX0_tell_30 : decode cX0_tell 30 = .ok (.lastore, 1) := by decide +kernel
theorem dX0_tell_31 : decode cX0_tell 31 = .ok (.iinc 3 1, 3) := by decide +kernel
theorem dX0_tell_34 : decode cX0_tell 34 = .ok (.goto (-27), 3) := by decide +kernel
theorem dX0_tell_37 : decode cX0_tell 37 = .ok (.return_, 1) := by decide +kernel
theorem dX0_copyTo_0 : decode cX0_copyTo 0 = .ok (.iconst 0, 1) := by decide +kernel
theorem dX0_copyTo_1 : decode cX0_copyTo 1 = .ok (.istore_n 2, 1) := by decide +kernel
theorem dX0_copyTo_2 : decode cX0_copyTo 2 = .ok (.iload_n 2, 1) := by decide +kernel
theorem dX0_copyTo_3 : decode cX0_copyTo 3 = .ok (.aload_n 0, 1) := by decide +kernel
theorem dX0_copyTo_4 : decode cX0_copyTo 4 = .ok (.getfield 9, 3) := by decide +kernel
theorem dX0_copyTo_7 : decode cX0_copyTo 7 = .ok (.arraylength, 1) := by decide +kernel
theorem dX0_copyTo_8 : decode cX0_copyTo 8 = .ok (.if_icmp .ge 24, 3) := by decide +kernel
theorem dX0_copyTo_11 : decode cX0_copyTo 11 = .ok (.iload_n 2, 1) := by decide +kernel
theorem dX0_copyTo_12 : decode cX0_copyTo 12 = .ok (.aload_n 1, 1) := by decide +kernel
theorem dX0_copyTo_13 : decode cX0_copyTo 13 = .ok (.arraylength, 1) := by decide +kernel
theorem dX0_copyTo_14 : decode cX0_copyTo 14 = .ok (.if_icmp .ge 18, 3) := by decide +kernel
theorem dX0_copyTo_17 : decode cX0_copyTo 17 = .ok (.aload_n 1, 1) := by decide +kernel
theorem dX0_copyTo_18 : decode cX0_copyTo 18 = .ok (.iload_n 2, 1) := by decide +kernel
theorem dX0_copyTo_19 : decode cX0_copyTo 19 = .ok (.aload_n 0, 1) := by decide +kernel
theorem dX0_copyTo_20 : decode cX0_copyTo 20 = .ok (.getfield 9, 3) := by decide +kernel
theorem dX0_copyTo_23 : decode cX0_copyTo 23 = .ok (.iload_n 2, 1) := by decide +kernel
theorem dX0_copyTo_24 : decode cX0_copyTo 24 = .ok (.laload, 1) := by decide +kernel
theorem dX0_copyTo_25 : decode cX0_copyTo 25 = .ok (.lastore, 1) := by decide +kernel
theorem dX0_copyTo_26 : decode cX0_copyTo 26 = .ok (.iinc 2 1, 3) := by decide +kernel
theorem dX0_copyTo_29 : decode cX0_copyTo 29 = .ok (.goto (-27), 3) := by decide +kernel
theorem dX0_copyTo_32 : decode cX0_copyTo 32 = .ok (.return_, 1) := by decide +kernel
theorem dX1_init_0 : decode cX1_init 0 = .ok (.aload_n 0, 1) := by decide +kernel
theorem dX1_init_1 : decode cX1_init 1 = .ok (.invokespecial 1, 3) := by decide +kernel
theorem dX1_init_4 : decode cX1_init 4 = .ok (.aload_n 0, 1) := by decide +kernel
theorem dX1_init_5 : decode cX1_init 5 = .ok (.new 7, 3) := by decide +kernel
theorem dX1_init_8 : decode cX1_init 8 = .ok (.dup, 1) := by decide +kernel
theorem dX1_init_9 : decode cX1_init 9 = .ok (.invokespecial 9, 3) := by decide +kernel
theorem dX1_init_12 : decode cX1_init 12 = .ok (.putfield 10, 3) := by decide +kernel
theorem dX1_init_15 : decode cX1_init 15 = .ok (.aload_n 0, 1) := by decide +kernel
theorem dX1_init_16 : decode cX1_init 16 = .ok (.new 16, 3) := by decide +kernel
theorem dX1_init_19 : decode cX1_init 19 = .ok (.dup, 1) := by decide +kernel
theorem dX1_init_20 : decode cX1_init 20 = .ok (.invokespecial 18, 3) := by decide +kernel
theorem dX1_init_23 : decode cX1_init 23 = .ok (.putfield 19, 3) := by decide +kernel
theorem dX1_init_26 : decode cX1_init 26 = .ok (.aload_n 0, 1) := by decide +kernel
theorem dX1_init_27 : decode cX1_init 27 = .ok (.new 23, 3) := by decide +kernel
theorem dX1_init_30 : decode cX1_init 30 = .ok (.dup, 1) := by decide +kernel
theorem dX1_init_31 : decode cX1_init 31 = .ok (.invokespecial 25, 3) := by decide +kernel
theorem dX1_init_34 : decode cX1_init 34 = .ok (.putfield 26, 3) := by decide +kernel
theorem dX1_init_37 : decode cX1_init 37 = .ok (.aload_n 0, 1) := by decide +kernel
theorem dX1_init_38 : decode cX1_init 38 = .ok (.iload_n 1, 1) := by decide +kernel
theorem dX1_init_39 : decode cX1_init 39 = .ok (.ifCond .ge 7, 3) := by decide +kernel
theorem dX1_init_42 : decode cX1_init 42 = .ok (.iconst 0, 1) := by decide +kernel
theorem dX1_init_43 : decode cX1_init 43 = .ok (.goto 4, 3) := by decide +kernel
theorem dX1_init_46 : decode cX1_init 46 = .ok (.iload_n 1, 1) := by decide +kernel
theorem dX1_init_47 : decode cX1_init 47 = .ok (.newarray .long, 2) := by decide +kernel
theorem dX1_init_49 : decode cX1_init 49 = .ok (.putfield 30, 3) := by decide +kernel
theorem dX1_init_52 : decode cX1_init 52 = .ok (.return_, 1) := by decide +kernel
theorem dX1_isLive_0 : decode cX1_isLive 0 = .ok (.aload_n 0, 1) := by decide +kernel
theorem dX1_isLive_1 : decode cX1_isLive 1 = .ok (.getfield 34, 3) := by decide +kernel
theorem dX1_isLive_4 : decode cX1_isLive 4 = .ok (.ifCond .ne 17, 3) := by decide +kernel
theorem dX1_isLive_7 : decode cX1_isLive 7 = .ok (.aload_n 0, 1) := by decide +kernel
theorem dX1_isLive_8 : decode cX1_isLive 8 = .ok (.getfield 10, 3) := by decide +kernel
theorem dX1_isLive_11 : decode cX1_isLive 11 = .ok (.getfield 38, 3) := by decide +kernel
theorem dX1_isLive_14 : decode cX1_isLive 14 = .ok (.ifCond .eq 7, 3) := by decide +kernel
theorem dX1_isLive_17 : decode cX1_isLive 17 = .ok (.iconst 1, 1) := by decide +kernel
theorem dX1_isLive_18 : decode cX1_isLive 18 = .ok (.goto 4, 3) := by decide +kernel
theorem dX1_isLive_21 : decode cX1_isLive 21 = .ok (.iconst 0, 1) := by decide +kernel
theorem dX1_isLive_22 : decode cX1_isLive 22 = .ok (.ireturn, 1) := by decide +kernel
theorem dX1_isRebuilding_0 : decode cX1_isRebuilding 0 = .ok (.aload_n 0, 1) := by decide +kernel
theorem dX1_isRebuilding_1 : decode cX1_isRebuilding 1 = .ok (.getfield 34, 3) := by decide +kernel
theorem dX1_isRebuilding_4 : decode cX1_isRebuilding 4 = .ok (.ifCond .ne 17, 3) := by decide +kernel
theorem dX1_isRebuilding_7 : decode cX1_isRebuilding 7 = .ok (.aload_n 0, 1) := by decide +kernel
theorem dX1_isRebuilding_8 : decode cX1_isRebuilding 8 = .ok (.getfield 10, 3) := by decide +kernel
theorem dX1_isRebuilding_11 : decode cX1_isRebuilding 11 = .ok (.getfield 38, 3) := by decide +kernel
theorem dX1_isRebuilding_14 : decode cX1_isRebuilding 14 = .ok (.ifCond .ne 7, 3) := by decide +kernel
theorem dX1_isRebuilding_17 : decode cX1_isRebuilding 17 = .ok (.iconst 1, 1) := by decide +kernel
theorem dX1_isRebuilding_18 : decode cX1_isRebuilding 18 = .ok (.goto 4, 3) := by decide +kernel
theorem dX1_isRebuilding_21 : decode cX1_isRebuilding 21 = .ok (.iconst 0, 1) := by decide +kernel
theorem dX1_isRebuilding_22 : decode cX1_isRebuilding 22 = .ok (.ireturn, 1) := by decide +kernel
theorem dX1_condition_0 : decode cX1_condition 0 = .ok (.aload_n 0, 1) := by decide +kernel
theorem dX1_condition_1 : decode cX1_condition 1 = .ok (.getfield 34, 3) := by decide +kernel
theorem dX1_condition_4 : decode cX1_condition 4 = .ok (.ifCond .eq 5, 3) := by decide +kernel
theorem dX1_condition_7 : decode cX1_condition 7 = .ok (.iconst 1, 1) := by decide +kernel
theorem dX1_condition_8 : decode cX1_condition 8 = .ok (.ireturn, 1) := by decide +kernel
theorem dX1_condition_9 : decode cX1_condition 9 = .ok (.aload_n 0, 1) := by decide +kernel
theorem dX1_condition_10 : decode cX1_condition 10 = .ok (.invokevirtual 42, 3) := by decide +kernel
theorem dX1_condition_13 : decode cX1_condition 13 = .ok (.ifCond .eq 7, 3) := by decide +kernel
theorem dX1_condition_16 : decode cX1_condition 16 = .ok (.iconst 2, 1) := by decide +kernel
theorem dX1_condition_17 : decode cX1_condition 17 = .ok (.goto 4, 3) := by decide +kernel
theorem dX1_condition_20 : decode cX1_condition 20 = .ok (.iconst 0, 1) := by decide +kernel
theorem dX1_condition_21 : decode cX1_condition 21 = .ok (.ireturn, 1) := by decide +kernel
theorem dX1_blockAt_0 : decode cX1_blockAt 0 = .ok (.iload_n 1, 1) := by decide +kernel
theorem dX1_blockAt_1 : decode cX1_blockAt 1 = .ok (.ifCond .lt 21, 3) := by decide +kernel
theorem dX1_blockAt_4 : decode cX1_blockAt 4 = .ok (.iload_n 1, 1) := by decide +kernel
theorem dX1_blockAt_5 : decode cX1_blockAt 5 = .ok (.aload_n 0, 1) := by decide +kernel
theorem dX1_blockAt_6 : decode cX1_blockAt 6 = .ok (.getfield 30, 3) := by decide +kernel
theorem dX1_blockAt_9 : decode cX1_blockAt 9 = .ok (.arraylength, 1) := by decide +kernel
theorem dX1_blockAt_10 : decode cX1_blockAt 10 = .ok (.if_icmp .ge 12, 3) := by decide +kernel
theorem dX1_blockAt_13 : decode cX1_blockAt 13 = .ok (.aload_n 0, 1) := by decide +kernel
theorem dX1_blockAt_14 : decode cX1_blockAt 14 = .ok (.getfield 30, 3) := by decide +kernel
theorem dX1_blockAt_17 : decode cX1_blockAt 17 = .ok (.iload_n 1, 1) := by decide +kernel
theorem dX1_blockAt_18 : decode cX1_blockAt 18 = .ok (.laload, 1) := by decide +kernel
theorem dX1_blockAt_19 : decode cX1_blockAt 19 = .ok (.goto 4, 3) := by decide +kernel
theorem dX1_blockAt_22 : decode cX1_blockAt 22 = .ok (.lconst 0, 1) := by decide +kernel
theorem dX1_blockAt_23 : decode cX1_blockAt 23 = .ok (.lreturn, 1) := by decide +kernel
theorem dX1_takeBlock_0 : decode cX1_takeBlock 0 = .ok (.iload_n 1, 1) := by decide +kernel
theorem dX1_takeBlock_1 : decode cX1_takeBlock 1 = .ok (.ifCond .lt 29, 3) := by decide +kernel
theorem dX1_takeBlock_4 : decode cX1_takeBlock 4 = .ok (.iload_n 1, 1) := by decide +kernel
theorem dX1_takeBlock_5 : decode cX1_takeBlock 5 = .ok (.aload_n 0, 1) := by decide +kernel
theorem dX1_takeBlock_6 : decode cX1_takeBlock 6 = .ok (.getfield 30, 3) := by decide +kernel
theorem dX1_takeBlock_9 : decode cX1_takeBlock 9 = .ok (.arraylength, 1) := by decide +kernel
theorem dX1_takeBlock_10 : decode cX1_takeBlock 10 = .ok (.if_icmp .ge 20, 3) := by decide +kernel
theorem dX1_takeBlock_13 : decode cX1_takeBlock 13 = .ok (.aload_n 0, 1) := by decide +kernel
theorem dX1_takeBlock_14 : decode cX1_takeBlock 14 = .ok (.getfield 30, 3) := by decide +kernel
theorem dX1_takeBlock_17 : decode cX1_takeBlock 17 = .ok (.iload_n 1, 1) := by decide +kernel
theorem dX1_takeBlock_18 : decode cX1_takeBlock 18 = .ok (.lload_n 2, 1) := by decide +kernel
theorem dX1_takeBlock_19 : decode cX1_takeBlock 19 = .ok (.lastore, 1) := by decide +kernel
theorem dX1_takeBlock_20 : decode cX1_takeBlock 20 = .ok (.aload_n 0, 1) := by decide +kernel
theorem dX1_takeBlock_21 : decode cX1_takeBlock 21 = .ok (.dup, 1) := by decide +kernel
theorem dX1_takeBlock_22 : decode cX1_takeBlock 22 = .ok (.getfield 46, 3) := by decide +kernel
theorem dX1_takeBlock_25 : decode cX1_takeBlock 25 = .ok (.iconst 1, 1) := by decide +kernel
theorem dX1_takeBlock_26 : decode cX1_takeBlock 26 = .ok (.iadd, 1) := by decide +kernel
theorem dX1_takeBlock_27 : decode cX1_takeBlock 27 = .ok (.putfield 46, 3) := by decide +kernel
theorem dX1_takeBlock_30 : decode cX1_takeBlock 30 = .ok (.return_, 1) := by decide +kernel
theorem dX1_takeSuper_0 : decode cX1_takeSuper 0 = .ok (.aload_n 0, 1) := by decide +kernel
theorem dX1_takeSuper_1 : decode cX1_takeSuper 1 = .ok (.getfield 10, 3) := by decide +kernel
theorem dX1_takeSuper_4 : decode cX1_takeSuper 4 = .ok (.iload_n 1, 1) := by decide +kernel
theorem dX1_takeSuper_5 : decode cX1_takeSuper 5 = .ok (.iload_n 2, 1) := by decide +kernel
theorem dX1_takeSuper_6 : decode cX1_takeSuper 6 = .ok (.iload_n 3, 1) := by decide +kernel
theorem dX1_takeSuper_7 : decode cX1_takeSuper 7 = .ok (.iload 4, 2) := by decide +kernel
theorem dX1_takeSuper_9 : decode cX1_takeSuper 9 = .ok (.invokevirtual 49, 3) := by decide +kernel
theorem dX1_takeSuper_12 : decode cX1_takeSuper 12 = .ok (.aload_n 0, 1) := by decide +kernel
theorem dX1_takeSuper_13 : decode cX1_takeSuper 13 = .ok (.dup, 1) := by decide +kernel
theorem dX1_takeSuper_14 : decode cX1_takeSuper 14 = .ok (.getfield 46, 3) := by decide +kernel
theorem dX1_takeSuper_17 : decode cX1_takeSuper 17 = .ok (.iconst 1, 1) := by decide +kernel
theorem dX1_takeSuper_18 : decode cX1_takeSuper 18 = .ok (.iadd, 1) := by decide +kernel
theorem dX1_takeSuper_19 : decode cX1_takeSuper 19 = .ok (.putfield 46, 3) := by decide +kernel
theorem dX1_takeSuper_22 : decode cX1_takeSuper 22 = .ok (.return_, 1) := by decide +kernel
theorem dX1_takeSuper__0 : decode cX1_takeSuper_ 0 = .ok (.aload_n 0, 1) := by decide +kernel
theorem dX1_takeSuper__1 : decode cX1_takeSuper_ 1 = .ok (.getfield 10, 3) := by decide +kernel
theorem dX1_takeSuper__4 : decode cX1_takeSuper_ 4 = .ok (.aload_n 1, 1) := by decide +kernel
theorem dX1_takeSuper__5 : decode cX1_takeSuper_ 5 = .ok (.invokevirtual 53, 3) := by decide +kernel
theorem dX1_takeSuper__8 : decode cX1_takeSuper_ 8 = .ok (.aload_n 0, 1) := by decide +kernel
theorem dX1_takeSuper__9 : decode cX1_takeSuper_ 9 = .ok (.dup, 1) := by decide +kernel
theorem dX1_takeSuper__10 : decode cX1_takeSuper_ 10 = .ok (.getfield 46, 3) := by decide +kernel
theorem dX1_takeSuper__13 : decode cX1_takeSuper_ 13 = .ok (.iconst 1, 1) := by decide +kernel
theorem dX1_takeSuper__14 : decode cX1_takeSuper_ 14 = .ok (.iadd, 1) := by decide +kernel
theorem dX1_takeSuper__15 : decode cX1_takeSuper_ 15 = .ok (.putfield 46, 3) := by decide +kernel
theorem dX1_takeSuper__18 : decode cX1_takeSuper_ 18 = .ok (.return_, 1) := by decide +kernel
theorem dX1_takeJournal_0 : decode cX1_takeJournal 0 = .ok (.aload_n 0, 1) := by decide +kernel
theorem dX1_takeJournal_1 : decode cX1_takeJournal 1 = .ok (.getfield 19, 3) := by decide +kernel
theorem dX1_takeJournal_4 : decode cX1_takeJournal 4 = .ok (.aload_n 1, 1) := by decide +kernel
theorem dX1_takeJournal_5 : decode cX1_takeJournal 5 = .ok (.invokevirtual 57, 3) := by decide +kernel
theorem dX1_takeJournal_8 : decode cX1_takeJournal 8 = .ok (.aload_n 0, 1) := by decide +kernel
theorem dX1_takeJournal_9 : decode cX1_takeJournal 9 = .ok (.dup, 1) := by decide +kernel
theorem dX1_takeJournal_10 : decode cX1_takeJournal 10 = .ok (.getfield 46, 3) := by decide +kernel
theorem dX1_takeJournal_13 : decode cX1_takeJournal 13 = .ok (.iconst 1, 1) := by decide +kernel
theorem dX1_takeJournal_14 : decode cX1_takeJournal 14 = .ok (.iadd, 1) := by decide +kernel
theorem dX1_takeJournal_15 : decode cX1_takeJournal 15 = .ok (.putfield 46, 3) := by decide +kernel
theorem dX1_takeJournal_18 : decode cX1_takeJournal 18 = .ok (.return_, 1) := by decide +kernel
theorem dX1_takeBackup_0 : decode cX1_takeBackup 0 = .ok (.aload_n 0, 1) := by decide +kernel
theorem dX1_takeBackup_1 : decode cX1_takeBackup 1 = .ok (.getfield 26, 3) := by decide +kernel
theorem dX1_takeBackup_4 : decode cX1_takeBackup 4 = .ok (.iload_n 1, 1) := by decide +kernel
theorem dX1_takeBackup_5 : decode cX1_takeBackup 5 = .ok (.aload_n 2, 1) := by decide +kernel
theorem dX1_takeBackup_6 : decode cX1_takeBackup 6 = .ok (.invokevirtual 60, 3) := by decide +kernel
theorem dX1_takeBackup_9 : decode cX1_takeBackup 9 = .ok (.aload_n 0, 1) := by decide +kernel
theorem dX1_takeBackup_10 : decode cX1_takeBackup 10 = .ok (.dup, 1) := by decide +kernel
theorem dX1_takeBackup_11 : decode cX1_takeBackup 11 = .ok (.getfield 46, 3) := by decide +kernel
theorem dX1_takeBackup_14 : decode cX1_takeBackup 14 = .ok (.iconst 1, 1) := by decide +kernel
theorem dX1_takeBackup_15 : decode cX1_takeBackup 15 = .ok (.iadd, 1) := by decide +kernel
theorem dX1_takeBackup_16 : decode cX1_takeBackup 16 = .ok (.putfield 46, 3) := by decide +kernel
theorem dX1_takeBackup_19 : decode cX1_takeBackup 19 = .ok (.return_, 1) := by decide +kernel
theorem dX1_renew_0 : decode cX1_renew 0 = .ok (.iconst 0, 1) := by decide +kernel
theorem dX1_renew_1 : decode cX1_renew 1 = .ok (.istore_n 1, 1) := by decide +kernel
theorem dX1_renew_2 : decode cX1_renew 2 = .ok (.iload_n 1, 1) := by decide +kernel
theorem dX1_renew_3 : decode cX1_renew 3 = .ok (.aload_n 0, 1) := by decide +kernel
theorem dX1_renew_4 : decode cX1_renew 4 = .ok (.getfield 30, 3) := by decide +kernel
theorem dX1_renew_7 : decode cX1_renew 7 = .ok (.arraylength, 1) := by decide +kernel
theorem dX1_renew_8 : decode cX1_renew 8 = .ok (.if_icmp .ge 16, 3) := by decide +kernel
theorem dX1_renew_11 : decode cX1_renew 11 = .ok (.aload_n 0, 1) := by decide +kernel
theorem dX1_renew_12 : decode cX1_renew 12 = .ok (.getfield 30, 3) := by decide +kernel
theorem dX1_renew_15 : decode cX1_renew 15 = .ok (.iload_n 1, 1) := by decide +kernel
theorem dX1_renew_16 : decode cX1_renew 16 = .ok (.lconst 0, 1) := by decide +kernel
theorem dX1_renew_17 : decode cX1_renew 17 = .ok (.lastore, 1) := by decide +kernel
theorem dX1_renew_18 : decode cX1_renew 18 = .ok (.iinc 1 1, 3) := by decide +kernel
theorem dX1_renew_21 : decode cX1_renew 21 = .ok (.goto (-19), 3) := by decide +kernel
theorem dX1_renew_24 : decode cX1_renew 24 = .ok (.aload_n 0, 1) := by decide +kernel
theorem dX1_renew_25 : decode cX1_renew 25 = .ok (.getfield 10, 3) := by decide +kernel
theorem dX1_renew_28 : decode cX1_renew 28 = .ok (.iconst 0, 1) := by decide +kernel
theorem dX1_renew_29 : decode cX1_renew 29 = .ok (.iconst 0, 1) := by decide +kernel
theorem dX1_renew_30 : decode cX1_renew 30 = .ok (.iconst 0, 1) := by decide +kernel
theorem dX1_renew_31 : decode cX1_renew 31 = .ok (.iconst 0, 1) := by decide +kernel
theorem dX1_renew_32 : decode cX1_renew 32 = .ok (.invokevirtual 49, 3) := by decide +kernel
theorem dX1_renew_35 : decode cX1_renew 35 = .ok (.aload_n 0, 1) := by decide +kernel
theorem dX1_renew_36 : decode cX1_renew 36 = .ok (.getfield 19, 3) := by decide +kernel
theorem dX1_renew_39 : decode cX1_renew 39 = .ok (.invokevirtual 63, 3) := by decide +kernel
theorem dX1_renew_42 : decode cX1_renew 42 = .ok (.aload_n 0, 1) := by decide +kernel
theorem dX1_renew_43 : decode cX1_renew 43 = .ok (.getfield 26, 3) := by decide +kernel
theorem dX1_renew_46 : decode cX1_renew 46 = .ok (.iconst 0, 1) := by decide +kernel
theorem dX1_renew_47 : decode cX1_renew 47 = .ok (.putfield 66, 3) := by decide +kernel
theorem dX1_renew_50 : decode cX1_renew 50 = .ok (.aload_n 0, 1) := by decide +kernel
theorem dX1_renew_51 : decode cX1_renew 51 = .ok (.iconst 0, 1) := by decide +kernel
theorem dX1_renew_52 : decode cX1_renew 52 = .ok (.putfield 34, 3) := by decide +kernel
theorem dX1_renew_55 : decode cX1_renew 55 = .ok (.aload_n 0, 1) := by decide +kernel
theorem dX1_renew_56 : decode cX1_renew 56 = .ok (.iconst 0, 1) := by decide +kernel
theorem dX1_renew_57 : decode cX1_renew 57 = .ok (.putfield 46, 3) := by decide +kernel
theorem dX1_renew_60 : decode cX1_renew 60 = .ok (.return_, 1) := by decide +kernel
theorem dX2_init_0 : decode cX2_init 0 = .ok (.aload_n 0, 1) := by decide +kernel
theorem dX2_init_1 : decode cX2_init 1 = .ok (.invokespecial 1, 3) := by decide +kernel
theorem dX2_init_4 : decode cX2_init 4 = .ok (.return_, 1) := by decide +kernel
theorem dX2_tell_0 : decode cX2_tell 0 = .ok (.aload_n 0, 1) := by decide +kernel
theorem dX2_tell_1 : decode cX2_tell 1 = .ok (.iload_n 1, 1) := by decide +kernel
theorem dX2_tell_2 : decode cX2_tell 2 = .ok (.putfield 7, 3) := by decide +kernel
theorem dX2_tell_5 : decode cX2_tell 5 = .ok (.aload_n 0, 1) := by decide +kernel
theorem dX2_tell_6 : decode cX2_tell 6 = .ok (.iload_n 2, 1) := by decide +kernel
theorem dX2_tell_7 : decode cX2_tell 7 = .ok (.putfield 13, 3) := by decide +kernel
theorem dX2_tell_10 : decode cX2_tell 10 = .ok (.aload_n 0, 1) := by decide +kernel
theorem dX2_tell_11 : decode cX2_tell 11 = .ok (.iload_n 3, 1) := by decide +kernel
theorem dX2_tell_12 : decode cX2_tell 12 = .ok (.putfield 16, 3) := by decide +kernel
theorem dX2_tell_15 : decode cX2_tell 15 = .ok (.aload_n 0, 1) := by decide +kernel
theorem dX2_tell_16 : decode cX2_tell 16 = .ok (.iload 4, 2) := by decide +kernel
theorem dX2_tell_18 : decode cX2_tell 18 = .ok (.putfield 19, 3) := by decide +kernel
theorem dX2_tell_21 : decode cX2_tell 21 = .ok (.aload_n 0, 1) := by decide +kernel
theorem dX2_tell_22 : decode cX2_tell 22 = .ok (.iload 5, 2) := by decide +kernel
theorem dX2_tell_24 : decode cX2_tell 24 = .ok (.putfield 22, 3) := by decide +kernel
theorem dX2_tell_27 : decode cX2_tell 27 = .ok (.return_, 1) := by decide +kernel
theorem dX2_copyFrom_0 : decode cX2_copyFrom 0 = .ok (.aload_n 0, 1) := by decide +kernel
theorem dX2_copyFrom_1 : decode cX2_copyFrom 1 = .ok (.aload_n 1, 1) := by decide +kernel
theorem dX2_copyFrom_2 : decode cX2_copyFrom 2 = .ok (.getfield 7, 3) := by decide +kernel
theorem dX2_copyFrom_5 : decode cX2_copyFrom 5 = .ok (.aload_n 1, 1) := by decide +kernel
theorem dX2_copyFrom_6 : decode cX2_copyFrom 6 = .ok (.getfield 13, 3) := by decide +kernel
theorem dX2_copyFrom_9 : decode cX2_copyFrom 9 = .ok (.aload_n 1, 1) := by decide +kernel
theorem dX2_copyFrom_10 : decode cX2_copyFrom 10 = .ok (.getfield 16, 3) := by decide +kernel
theorem dX2_copyFrom_13 : decode cX2_copyFrom 13 = .ok (.aload_n 1, 1) := by decide +kernel
theorem dX2_copyFrom_14 : decode cX2_copyFrom 14 = .ok (.getfield 19, 3) := by decide +kernel
theorem dX2_copyFrom_17 : decode cX2_copyFrom 17 = .ok (.aload_n 1, 1) := by decide +kernel
theorem dX2_copyFrom_18 : decode cX2_copyFrom 18 = .ok (.getfield 22, 3) := by decide +kernel
theorem dX2_copyFrom_21 : decode cX2_copyFrom 21 = .ok (.invokevirtual 25, 3) := by decide +kernel
theorem dX2_copyFrom_24 : decode cX2_copyFrom 24 = .ok (.aload_n 0, 1) := by decide +kernel
theorem dX2_copyFrom_25 : decode cX2_copyFrom 25 = .ok (.aload_n 1, 1) := by decide +kernel
theorem dX2_copyFrom_26 : decode cX2_copyFrom 26 = .ok (.getfield 29, 3) := by decide +kernel
theorem dX2_copyFrom_29 : decode cX2_copyFrom 29 = .ok (.putfield 29, 3) := by decide +kernel
theorem dX2_copyFrom_32 : decode cX2_copyFrom 32 = .ok (.aload_n 0, 1) := by decide +kernel
theorem dX2_copyFrom_33 : decode cX2_copyFrom 33 = .ok (.aload_n 1, 1) := by decide +kernel
theorem dX2_copyFrom_34 : decode cX2_copyFrom 34 = .ok (.getfield 33, 3) := by decide +kernel
theorem dX2_copyFrom_37 : decode cX2_copyFrom 37 = .ok (.putfield 33, 3) := by decide +kernel
theorem dX2_copyFrom_40 : decode cX2_copyFrom 40 = .ok (.return_, 1) := by decide +kernel
theorem dX2_erase_0 : decode cX2_erase 0 = .ok (.aload_n 0, 1) := by decide +kernel
theorem dX2_erase_1 : decode cX2_erase 1 = .ok (.iconst 0, 1) := by decide +kernel
theorem dX2_erase_2 : decode cX2_erase 2 = .ok (.iconst 0, 1) := by decide +kernel
theorem dX2_erase_3 : decode cX2_erase 3 = .ok (.iconst 0, 1) := by decide +kernel
theorem dX2_erase_4 : decode cX2_erase 4 = .ok (.iconst 0, 1) := by decide +kernel
theorem dX2_erase_5 : decode cX2_erase 5 = .ok (.iconst 0, 1) := by decide +kernel
theorem dX2_erase_6 : decode cX2_erase 6 = .ok (.invokevirtual 25, 3) := by decide +kernel
theorem dX2_erase_9 : decode cX2_erase 9 = .ok (.aload_n 0, 1) := by decide +kernel
theorem dX2_erase_10 : decode cX2_erase 10 = .ok (.lconst 0, 1) := by decide +kernel
theorem dX2_erase_11 : decode cX2_erase 11 = .ok (.putfield 29, 3) := by decide +kernel
theorem dX2_erase_14 : decode cX2_erase 14 = .ok (.aload_n 0, 1) := by decide +kernel
theorem dX2_erase_15 : decode cX2_erase 15 = .ok (.lconst 0, 1) := by decide +kernel
theorem dX2_erase_16 : decode cX2_erase 16 = .ok (.putfield 33, 3) := by decide +kernel
theorem dX2_erase_19 : decode cX2_erase 19 = .ok (.return_, 1) := by decide +kernel
theorem dX3_init_0 : decode cX3_init 0 = .ok (.aload_n 0, 1) := by decide +kernel
theorem dX3_init_1 : decode cX3_init 1 = .ok (.invokespecial 1, 3) := by decide +kernel
theorem dX3_init_4 : decode cX3_init 4 = .ok (.return_, 1) := by decide +kernel
theorem dX3_tell_0 : decode cX3_tell 0 = .ok (.aload_n 0, 1) := by decide +kernel
theorem dX3_tell_1 : decode cX3_tell 1 = .ok (.iload_n 1, 1) := by decide +kernel
theorem dX3_tell_2 : decode cX3_tell 2 = .ok (.putfield 7, 3) := by decide +kernel
theorem dX3_tell_5 : decode cX3_tell 5 = .ok (.aload_n 0, 1) := by decide +kernel
theorem dX3_tell_6 : decode cX3_tell 6 = .ok (.iload_n 2, 1) := by decide +kernel
theorem dX3_tell_7 : decode cX3_tell 7 = .ok (.putfield 13, 3) := by decide +kernel
theorem dX3_tell_10 : decode cX3_tell 10 = .ok (.aload_n 0, 1) := by decide +kernel
theorem dX3_tell_11 : decode cX3_tell 11 = .ok (.iload_n 3, 1) := by decide +kernel
theorem dX3_tell_12 : decode cX3_tell 12 = .ok (.putfield 16, 3) := by decide +kernel
theorem dX3_tell_15 : decode cX3_tell 15 = .ok (.aload_n 0, 1) := by decide +kernel
theorem dX3_tell_16 : decode cX3_tell 16 = .ok (.iload 4, 2) := by decide +kernel
theorem dX3_tell_18 : decode cX3_tell 18 = .ok (.putfield 19, 3) := by decide +kernel
theorem dX3_tell_21 : decode cX3_tell 21 = .ok (.return_, 1) := by decide +kernel
theorem dX3_copyFrom_0 : decode cX3_copyFrom 0 = .ok (.aload_n 0, 1) := by decide +kernel
theorem dX3_copyFrom_1 : decode cX3_copyFrom 1 = .ok (.aload_n 1, 1) := by decide +kernel
theorem dX3_copyFrom_2 : decode cX3_copyFrom 2 = .ok (.getfield 7, 3) := by decide +kernel
theorem dX3_copyFrom_5 : decode cX3_copyFrom 5 = .ok (.aload_n 1, 1) := by decide +kernel
theorem dX3_copyFrom_6 : decode cX3_copyFrom 6 = .ok (.getfield 13, 3) := by decide +kernel
theorem dX3_copyFrom_9 : decode cX3_copyFrom 9 = .ok (.aload_n 1, 1) := by decide +kernel
theorem dX3_copyFrom_10 : decode cX3_copyFrom 10 = .ok (.getfield 16, 3) := by decide +kernel
theorem dX3_copyFrom_13 : decode cX3_copyFrom 13 = .ok (.aload_n 1, 1) := by decide +kernel
theorem dX3_copyFrom_14 : decode cX3_copyFrom 14 = .ok (.getfield 19, 3) := by decide +kernel
theorem dX3_copyFrom_17 : decode cX3_copyFrom 17 = .ok (.invokevirtual 22, 3) := by decide +kernel
theorem dX3_copyFrom_20 : decode cX3_copyFrom 20 = .ok (.return_, 1) := by decide +kernel
