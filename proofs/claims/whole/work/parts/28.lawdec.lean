theorem dL_load_0 : decode cL_load 0 = .ok (.aload_n 2, 1) := by decide +kernel
theorem dL_load_1 : decode cL_load 1 = .ok (.iconst 0, 1) := by decide +kernel
theorem dL_load_2 : decode cL_load 2 = .ok (.aload_n 0, 1) := by decide +kernel
theorem dL_load_3 : decode cL_load 3 = .ok (.iload_n 1, 1) := by decide +kernel
theorem dL_load_4 : decode cL_load 4 = .ok (.invokevirtual 7, 3) := by decide +kernel
theorem dL_load_7 : decode cL_load 7 = .ok (.i2l, 1) := by decide +kernel
theorem dL_load_8 : decode cL_load 8 = .ok (.lastore, 1) := by decide +kernel
theorem dL_load_9 : decode cL_load 9 = .ok (.goto 6, 3) := by decide +kernel
theorem dL_load_12 : decode cL_load 12 = .ok (.astore_n 3, 1) := by decide +kernel
theorem dL_load_13 : decode cL_load 13 = .ok (.iconst 1, 1) := by decide +kernel
theorem dL_load_14 : decode cL_load 14 = .ok (.ireturn, 1) := by decide +kernel
theorem dL_load_15 : decode cL_load 15 = .ok (.iconst 0, 1) := by decide +kernel
theorem dL_load_16 : decode cL_load 16 = .ok (.ireturn, 1) := by decide +kernel
theorem dL_level_0 : decode cL_level 0 = .ok (.aload_n 2, 1) := by decide +kernel
theorem dL_level_1 : decode cL_level 1 = .ok (.iconst 0, 1) := by decide +kernel
theorem dL_level_2 : decode cL_level 2 = .ok (.aload_n 0, 1) := by decide +kernel
theorem dL_level_3 : decode cL_level 3 = .ok (.iload_n 1, 1) := by decide +kernel
theorem dL_level_4 : decode cL_level 4 = .ok (.invokevirtual 15, 3) := by decide +kernel
theorem dL_level_7 : decode cL_level 7 = .ok (.i2l, 1) := by decide +kernel
theorem dL_level_8 : decode cL_level 8 = .ok (.lastore, 1) := by decide +kernel
theorem dL_level_9 : decode cL_level 9 = .ok (.goto 6, 3) := by decide +kernel
theorem dL_level_12 : decode cL_level 12 = .ok (.astore_n 3, 1) := by decide +kernel
theorem dL_level_13 : decode cL_level 13 = .ok (.iconst 1, 1) := by decide +kernel
theorem dL_level_14 : decode cL_level 14 = .ok (.ireturn, 1) := by decide +kernel
theorem dL_level_15 : decode cL_level 15 = .ok (.iconst 0, 1) := by decide +kernel
theorem dL_level_16 : decode cL_level 16 = .ok (.ireturn, 1) := by decide +kernel
theorem dL_latch_0 : decode cL_latch 0 = .ok (.aload_n 2, 1) := by decide +kernel
theorem dL_latch_1 : decode cL_latch 1 = .ok (.iconst 0, 1) := by decide +kernel
theorem dL_latch_2 : decode cL_latch 2 = .ok (.aload_n 0, 1) := by decide +kernel
theorem dL_latch_3 : decode cL_latch 3 = .ok (.iload_n 1, 1) := by decide +kernel
theorem dL_latch_4 : decode cL_latch 4 = .ok (.invokevirtual 20, 3) := by decide +kernel
theorem dL_latch_7 : decode cL_latch 7 = .ok (.i2l, 1) := by decide +kernel
theorem dL_latch_8 : decode cL_latch 8 = .ok (.lastore, 1) := by decide +kernel
theorem dL_latch_9 : decode cL_latch 9 = .ok (.goto 6, 3) := by decide +kernel
theorem dL_latch_12 : decode cL_latch 12 = .ok (.astore_n 3, 1) := by decide +kernel
theorem dL_latch_13 : decode cL_latch 13 = .ok (.iconst 1, 1) := by decide +kernel
theorem dL_latch_14 : decode cL_latch 14 = .ok (.ireturn, 1) := by decide +kernel
theorem dL_latch_15 : decode cL_latch 15 = .ok (.iconst 0, 1) := by decide +kernel
theorem dL_latch_16 : decode cL_latch 16 = .ok (.ireturn, 1) := by decide +kernel
theorem dL_isOutput_0 : decode cL_isOutput 0 = .ok (.aload_n 2, 1) := by decide +kernel
theorem dL_isOutput_1 : decode cL_isOutput 1 = .ok (.iconst 0, 1) := by decide +kernel
theorem dL_isOutput_2 : decode cL_isOutput 2 = .ok (.aload_n 0, 1) := by decide +kernel
theorem dL_isOutput_3 : decode cL_isOutput 3 = .ok (.iload_n 1, 1) := by decide +kernel
theorem dL_isOutput_4 : decode cL_isOutput 4 = .ok (.invokevirtual 23, 3) := by decide +kernel
theorem dL_isOutput_7 : decode cL_isOutput 7 = .ok (.ifCond .eq 7, 3) := by decide +kernel
theorem dL_isOutput_10 : decode cL_isOutput 10 = .ok (.lconst 1, 1) := by decide +kernel
theorem dL_isOutput_11 : decode cL_isOutput 11 = .ok (.goto 4, 3) := by decide +kernel
theorem dL_isOutput_14 : decode cL_isOutput 14 = .ok (.lconst 0, 1) := by decide +kernel
theorem dL_isOutput_15 : decode cL_isOutput 15 = .ok (.lastore, 1) := by decide +kernel
theorem dL_isOutput_16 : decode cL_isOutput 16 = .ok (.goto 6, 3) := by decide +kernel
theorem dL_isOutput_19 : decode cL_isOutput 19 = .ok (.astore_n 3, 1) := by decide +kernel
theorem dL_isOutput_20 : decode cL_isOutput 20 = .ok (.iconst 1, 1) := by decide +kernel
theorem dL_isOutput_21 : decode cL_isOutput 21 = .ok (.ireturn, 1) := by decide +kernel
theorem dL_isOutput_22 : decode cL_isOutput 22 = .ok (.iconst 0, 1) := by decide +kernel
theorem dL_isOutput_23 : decode cL_isOutput 23 = .ok (.ireturn, 1) := by decide +kernel
theorem dL_flag_0 : decode cL_flag 0 = .ok (.aload_n 2, 1) := by decide +kernel
theorem dL_flag_1 : decode cL_flag 1 = .ok (.iconst 0, 1) := by decide +kernel
theorem dL_flag_2 : decode cL_flag 2 = .ok (.aload_n 0, 1) := by decide +kernel
theorem dL_flag_3 : decode cL_flag 3 = .ok (.iload_n 1, 1) := by decide +kernel
theorem dL_flag_4 : decode cL_flag 4 = .ok (.invokevirtual 27, 3) := by decide +kernel
theorem dL_flag_7 : decode cL_flag 7 = .ok (.i2l, 1) := by decide +kernel
theorem dL_flag_8 : decode cL_flag 8 = .ok (.lastore, 1) := by decide +kernel
theorem dL_flag_9 : decode cL_flag 9 = .ok (.goto 6, 3) := by decide +kernel
theorem dL_flag_12 : decode cL_flag 12 = .ok (.astore_n 3, 1) := by decide +kernel
theorem dL_flag_13 : decode cL_flag 13 = .ok (.iconst 1, 1) := by decide +kernel
theorem dL_flag_14 : decode cL_flag 14 = .ok (.ireturn, 1) := by decide +kernel
theorem dL_flag_15 : decode cL_flag 15 = .ok (.iconst 0, 1) := by decide +kernel
theorem dL_flag_16 : decode cL_flag 16 = .ok (.ireturn, 1) := by decide +kernel
theorem dL_memory_0 : decode cL_memory 0 = .ok (.aload_n 2, 1) := by decide +kernel
theorem dL_memory_1 : decode cL_memory 1 = .ok (.iconst 0, 1) := by decide +kernel
theorem dL_memory_2 : decode cL_memory 2 = .ok (.aload_n 0, 1) := by decide +kernel
theorem dL_memory_3 : decode cL_memory 3 = .ok (.iload_n 1, 1) := by decide +kernel
theorem dL_memory_4 : decode cL_memory 4 = .ok (.invokevirtual 30, 3) := by decide +kernel
theorem dL_memory_7 : decode cL_memory 7 = .ok (.i2l, 1) := by decide +kernel
theorem dL_memory_8 : decode cL_memory 8 = .ok (.lastore, 1) := by decide +kernel
theorem dL_memory_9 : decode cL_memory 9 = .ok (.goto 6, 3) := by decide +kernel
theorem dL_memory_12 : decode cL_memory 12 = .ok (.astore_n 3, 1) := by decide +kernel
theorem dL_memory_13 : decode cL_memory 13 = .ok (.iconst 1, 1) := by decide +kernel
theorem dL_memory_14 : decode cL_memory 14 = .ok (.ireturn, 1) := by decide +kernel
theorem dL_memory_15 : decode cL_memory 15 = .ok (.iconst 0, 1) := by decide +kernel
theorem dL_memory_16 : decode cL_memory 16 = .ok (.ireturn, 1) := by decide +kernel
theorem dL_pc_0 : decode cL_pc 0 = .ok (.aload_n 2, 1) := by decide +kernel
theorem dL_pc_1 : decode cL_pc 1 = .ok (.iconst 0, 1) := by decide +kernel
theorem dL_pc_2 : decode cL_pc 2 = .ok (.aload_n 0, 1) := by decide +kernel
theorem dL_pc_3 : decode cL_pc 3 = .ok (.iload_n 1, 1) := by decide +kernel
theorem dL_pc_4 : decode cL_pc 4 = .ok (.invokevirtual 33, 3) := by decide +kernel
theorem dL_pc_7 : decode cL_pc 7 = .ok (.i2l, 1) := by decide +kernel
theorem dL_pc_8 : decode cL_pc 8 = .ok (.lastore, 1) := by decide +kernel
theorem dL_pc_9 : decode cL_pc 9 = .ok (.goto 6, 3) := by decide +kernel
theorem dL_pc_12 : decode cL_pc 12 = .ok (.astore_n 3, 1) := by decide +kernel
theorem dL_pc_13 : decode cL_pc 13 = .ok (.iconst 1, 1) := by decide +kernel
theorem dL_pc_14 : decode cL_pc 14 = .ok (.ireturn, 1) := by decide +kernel
theorem dL_pc_15 : decode cL_pc 15 = .ok (.iconst 0, 1) := by decide +kernel
theorem dL_pc_16 : decode cL_pc 16 = .ok (.ireturn, 1) := by decide +kernel
theorem dL_register_0 : decode cL_register 0 = .ok (.aload_n 3, 1) := by decide +kernel
theorem dL_register_1 : decode cL_register 1 = .ok (.iconst 0, 1) := by decide +kernel
theorem dL_register_2 : decode cL_register 2 = .ok (.aload_n 0, 1) := by decide +kernel
theorem dL_register_3 : decode cL_register 3 = .ok (.iload_n 1, 1) := by decide +kernel
theorem dL_register_4 : decode cL_register 4 = .ok (.iload_n 2, 1) := by decide +kernel
theorem dL_register_5 : decode cL_register 5 = .ok (.invokevirtual 36, 3) := by decide +kernel
theorem dL_register_8 : decode cL_register 8 = .ok (.i2l, 1) := by decide +kernel
theorem dL_register_9 : decode cL_register 9 = .ok (.lastore, 1) := by decide +kernel
theorem dL_register_10 : decode cL_register 10 = .ok (.goto 7, 3) := by decide +kernel
theorem dL_register_13 : decode cL_register 13 = .ok (.astore 4, 2) := by decide +kernel
theorem dL_register_15 : decode cL_register 15 = .ok (.iconst 1, 1) := by decide +kernel
theorem dL_register_16 : decode cL_register 16 = .ok (.ireturn, 1) := by decide +kernel
theorem dL_register_17 : decode cL_register 17 = .ok (.iconst 0, 1) := by decide +kernel
theorem dL_register_18 : decode cL_register 18 = .ok (.ireturn, 1) := by decide +kernel
theorem dL_fill_0 : decode cL_fill 0 = .ok (.aload_n 2, 1) := by decide +kernel
theorem dL_fill_1 : decode cL_fill 1 = .ok (.iconst 0, 1) := by decide +kernel
theorem dL_fill_2 : decode cL_fill 2 = .ok (.aload_n 0, 1) := by decide +kernel
theorem dL_fill_3 : decode cL_fill 3 = .ok (.iload_n 1, 1) := by decide +kernel
theorem dL_fill_4 : decode cL_fill 4 = .ok (.invokevirtual 40, 3) := by decide +kernel
theorem dL_fill_7 : decode cL_fill 7 = .ok (.i2l, 1) := by decide +kernel
theorem dL_fill_8 : decode cL_fill 8 = .ok (.lastore, 1) := by decide +kernel
theorem dL_fill_9 : decode cL_fill 9 = .ok (.goto 6, 3) := by decide +kernel
theorem dL_fill_12 : decode cL_fill 12 = .ok (.astore_n 3, 1) := by decide +kernel
theorem dL_fill_13 : decode cL_fill 13 = .ok (.iconst 1, 1) := by decide +kernel
theorem dL_fill_14 : decode cL_fill 14 = .ok (.ireturn, 1) := by decide +kernel
theorem dL_fill_15 : decode cL_fill 15 = .ok (.iconst 0, 1) := by decide +kernel
theorem dL_fill_16 : decode cL_fill 16 = .ok (.ireturn, 1) := by decide +kernel
theorem dL_spent_0 : decode cL_spent 0 = .ok (.aload_n 2, 1) := by decide +kernel
theorem dL_spent_1 : decode cL_spent 1 = .ok (.iconst 0, 1) := by decide +kernel
theorem dL_spent_2 : decode cL_spent 2 = .ok (.aload_n 0, 1) := by decide +kernel
theorem dL_spent_3 : decode cL_spent 3 = .ok (.iload_n 1, 1) := by decide +kernel
theorem dL_spent_4 : decode cL_spent 4 = .ok (.invokevirtual 43, 3) := by decide +kernel
theorem dL_spent_7 : decode cL_spent 7 = .ok (.i2l, 1) := by decide +kernel
theorem dL_spent_8 : decode cL_spent 8 = .ok (.lastore, 1) := by decide +kernel
theorem dL_spent_9 : decode cL_spent 9 = .ok (.goto 6, 3) := by decide +kernel
theorem dL_spent_12 : decode cL_spent 12 = .ok (.astore_n 3, 1) := by decide +kernel
theorem dL_spent_13 : decode cL_spent 13 = .ok (.iconst 1, 1) := by decide +kernel
theorem dL_spent_14 : decode cL_spent 14 = .ok (.ireturn, 1) := by decide +kernel
theorem dL_spent_15 : decode cL_spent 15 = .ok (.iconst 0, 1) := by decide +kernel
theorem dL_spent_16 : decode cL_spent 16 = .ok (.ireturn, 1) := by decide +kernel
theorem dL_delayLeft_0 : decode cL_delayLeft 0 = .ok (.aload_n 2, 1) := by decide +kernel
theorem dL_delayLeft_1 : decode cL_delayLeft 1 = .ok (.iconst 0, 1) := by decide +kernel
theorem dL_delayLeft_2 : decode cL_delayLeft 2 = .ok (.aload_n 0, 1) := by decide +kernel
theorem dL_delayLeft_3 : decode cL_delayLeft 3 = .ok (.iload_n 1, 1) := by decide +kernel
theorem dL_delayLeft_4 : decode cL_delayLeft 4 = .ok (.invokevirtual 46, 3) := by decide +kernel
theorem dL_delayLeft_7 : decode cL_delayLeft 7 = .ok (.i2l, 1) := by decide +kernel
theorem dL_delayLeft_8 : decode cL_delayLeft 8 = .ok (.lastore, 1) := by decide +kernel
theorem dL_delayLeft_9 : decode cL_delayLeft 9 = .ok (.goto 6, 3) := by decide +kernel
theorem dL_delayLeft_12 : decode cL_delayLeft 12 = .ok (.astore_n 3, 1) := by decide +kernel
theorem dL_delayLeft_13 : decode cL_delayLeft 13 = .ok (.iconst 1, 1) := by decide +kernel
theorem dL_delayLeft_14 : decode cL_delayLeft 14 = .ok (.ireturn, 1) := by decide +kernel
theorem dL_delayLeft_15 : decode cL_delayLeft 15 = .ok (.iconst 0, 1) := by decide +kernel
theorem dL_delayLeft_16 : decode cL_delayLeft 16 = .ok (.ireturn, 1) := by decide +kernel
theorem dL_stall_0 : decode cL_stall 0 = .ok (.aload_n 2, 1) := by decide +kernel
theorem dL_stall_1 : decode cL_stall 1 = .ok (.iconst 0, 1) := by decide +kernel
theorem dL_stall_2 : decode cL_stall 2 = .ok (.aload_n 0, 1) := by decide +kernel
theorem dL_stall_3 : decode cL_stall 3 = .ok (.iload_n 1, 1) := by decide +kernel
theorem dL_stall_4 : decode cL_stall 4 = .ok (.invokevirtual 49, 3) := by decide +kernel
theorem dL_stall_7 : decode cL_stall 7 = .ok (.i2l, 1) := by decide +kernel
theorem dL_stall_8 : decode cL_stall 8 = .ok (.lastore, 1) := by decide +kernel
theorem dL_stall_9 : decode cL_stall 9 = .ok (.goto 6, 3) := by decide +kernel
theorem dL_stall_12 : decode cL_stall 12 = .ok (.astore_n 3, 1) := by decide +kernel
theorem dL_stall_13 : decode cL_stall 13 = .ok (.iconst 1, 1) := by decide +kernel
theorem dL_stall_14 : decode cL_stall 14 = .ok (.ireturn, 1) := by decide +kernel
theorem dL_stall_15 : decode cL_stall 15 = .ok (.iconst 0, 1) := by decide +kernel
theorem dL_stall_16 : decode cL_stall 16 = .ok (.ireturn, 1) := by decide +kernel
theorem dL_isEnabled_0 : decode cL_isEnabled 0 = .ok (.aload_n 2, 1) := by decide +kernel
theorem dL_isEnabled_1 : decode cL_isEnabled 1 = .ok (.iconst 0, 1) := by decide +kernel
theorem dL_isEnabled_2 : decode cL_isEnabled 2 = .ok (.aload_n 0, 1) := by decide +kernel
theorem dL_isEnabled_3 : decode cL_isEnabled 3 = .ok (.iload_n 1, 1) := by decide +kernel
theorem dL_isEnabled_4 : decode cL_isEnabled 4 = .ok (.invokevirtual 52, 3) := by decide +kernel
theorem dL_isEnabled_7 : decode cL_isEnabled 7 = .ok (.ifCond .eq 7, 3) := by decide +kernel
theorem dL_isEnabled_10 : decode cL_isEnabled 10 = .ok (.lconst 1, 1) := by decide +kernel
theorem dL_isEnabled_11 : decode cL_isEnabled 11 = .ok (.goto 4, 3) := by decide +kernel
theorem dL_isEnabled_14 : decode cL_isEnabled 14 = .ok (.lconst 0, 1) := by decide +kernel
theorem dL_isEnabled_15 : decode cL_isEnabled 15 = .ok (.lastore, 1) := by decide +kernel
theorem dL_isEnabled_16 : decode cL_isEnabled 16 = .ok (.goto 6, 3) := by decide +kernel
theorem dL_isEnabled_19 : decode cL_isEnabled 19 = .ok (.astore_n 3, 1) := by decide +kernel
theorem dL_isEnabled_20 : decode cL_isEnabled 20 = .ok (.iconst 1, 1) := by decide +kernel
theorem dL_isEnabled_21 : decode cL_isEnabled 21 = .ok (.ireturn, 1) := by decide +kernel
theorem dL_isEnabled_22 : decode cL_isEnabled 22 = .ok (.iconst 0, 1) := by decide +kernel
theorem dL_isEnabled_23 : decode cL_isEnabled 23 = .ok (.ireturn, 1) := by decide +kernel
theorem dL_queueSize_0 : decode cL_queueSize 0 = .ok (.aload_n 3, 1) := by decide +kernel
theorem dL_queueSize_1 : decode cL_queueSize 1 = .ok (.iconst 0, 1) := by decide +kernel
theorem dL_queueSize_2 : decode cL_queueSize 2 = .ok (.aload_n 0, 1) := by decide +kernel
theorem dL_queueSize_3 : decode cL_queueSize 3 = .ok (.iload_n 1, 1) := by decide +kernel
theorem dL_queueSize_4 : decode cL_queueSize 4 = .ok (.iload_n 2, 1) := by decide +kernel
theorem dL_queueSize_5 : decode cL_queueSize 5 = .ok (.invokevirtual 55, 3) := by decide +kernel
theorem dL_queueSize_8 : decode cL_queueSize 8 = .ok (.i2l, 1) := by decide +kernel
theorem dL_queueSize_9 : decode cL_queueSize 9 = .ok (.lastore, 1) := by decide +kernel
theorem dL_queueSize_10 : decode cL_queueSize 10 = .ok (.goto 7, 3) := by decide +kernel
theorem dL_queueSize_13 : decode cL_queueSize 13 = .ok (.astore 4, 2) := by decide +kernel
theorem dL_queueSize_15 : decode cL_queueSize 15 = .ok (.iconst 1, 1) := by decide +kernel
theorem dL_queueSize_16 : decode cL_queueSize 16 = .ok (.ireturn, 1) := by decide +kernel
theorem dL_queueSize_17 : decode cL_queueSize 17 = .ok (.iconst 0, 1) := by decide +kernel
theorem dL_queueSize_18 : decode cL_queueSize 18 = .ok (.ireturn, 1) := by decide +kernel
theorem dL_queued_0 : decode cL_queued 0 = .ok (.aload 4, 2) := by decide +kernel
theorem dL_queued_2 : decode cL_queued 2 = .ok (.iconst 0, 1) := by decide +kernel
theorem dL_queued_3 : decode cL_queued 3 = .ok (.aload_n 0, 1) := by decide +kernel
theorem dL_queued_4 : decode cL_queued 4 = .ok (.iload_n 1, 1) := by decide +kernel
theorem dL_queued_5 : decode cL_queued 5 = .ok (.iload_n 2, 1) := by decide +kernel
theorem dL_queued_6 : decode cL_queued 6 = .ok (.iload_n 3, 1) := by decide +kernel
theorem dL_queued_7 : decode cL_queued 7 = .ok (.invokevirtual 59, 3) := by decide +kernel
theorem dL_queued_10 : decode cL_queued 10 = .ok (.lastore, 1) := by decide +kernel
theorem dL_queued_11 : decode cL_queued 11 = .ok (.goto 7, 3) := by decide +kernel
theorem dL_queued_14 : decode cL_queued 14 = .ok (.astore 5, 2) := by decide +kernel
theorem dL_queued_16 : decode cL_queued 16 = .ok (.iconst 1, 1) := by decide +kernel
theorem dL_queued_17 : decode cL_queued 17 = .ok (.ireturn, 1) := by decide +kernel
theorem dL_queued_18 : decode cL_queued 18 = .ok (.iconst 0, 1) := by decide +kernel
theorem dL_queued_19 : decode cL_queued 19 = .ok (.ireturn, 1) := by decide +kernel
theorem dL_count_0 : decode cL_count 0 = .ok (.aload_n 3, 1) := by decide +kernel
theorem dL_count_1 : decode cL_count 1 = .ok (.iconst 0, 1) := by decide +kernel
theorem dL_count_2 : decode cL_count 2 = .ok (.aload_n 0, 1) := by decide +kernel
theorem dL_count_3 : decode cL_count 3 = .ok (.iload_n 1, 1) := by decide +kernel
theorem dL_count_4 : decode cL_count 4 = .ok (.iload_n 2, 1) := by decide +kernel
theorem dL_count_5 : decode cL_count 5 = .ok (.invokevirtual 63, 3) := by decide +kernel
theorem dL_count_8 : decode cL_count 8 = .ok (.i2l, 1) := by decide +kernel
theorem dL_count_9 : decode cL_count 9 = .ok (.lastore, 1) := by decide +kernel
theorem dL_count_10 : decode cL_count 10 = .ok (.goto 7, 3) := by decide +kernel
theorem dL_count_13 : decode cL_count 13 = .ok (.astore 4, 2) := by decide +kernel
theorem dL_count_15 : decode cL_count 15 = .ok (.iconst 1, 1) := by decide +kernel
theorem dL_count_16 : decode cL_count 16 = .ok (.ireturn, 1) := by decide +kernel
theorem dL_count_17 : decode cL_count 17 = .ok (.iconst 0, 1) := by decide +kernel
theorem dL_count_18 : decode cL_count 18 = .ok (.ireturn, 1) := by decide +kernel
theorem dL_levelAt_0 : decode cL_levelAt 0 = .ok (.aload_n 3, 1) := by decide +kernel
theorem dL_levelAt_1 : decode cL_levelAt 1 = .ok (.iconst 0, 1) := by decide +kernel
theorem dL_levelAt_2 : decode cL_levelAt 2 = .ok (.aload_n 0, 1) := by decide +kernel
theorem dL_levelAt_3 : decode cL_levelAt 3 = .ok (.iload_n 1, 1) := by decide +kernel
theorem dL_levelAt_4 : decode cL_levelAt 4 = .ok (.iload_n 2, 1) := by decide +kernel
theorem dL_levelAt_5 : decode cL_levelAt 5 = .ok (.invokevirtual 66, 3) := by decide +kernel
theorem dL_levelAt_8 : decode cL_levelAt 8 = .ok (.i2l, 1) := by decide +kernel
theorem dL_levelAt_9 : decode cL_levelAt 9 = .ok (.lastore, 1) := by decide +kernel
theorem dL_levelAt_10 : decode cL_levelAt 10 = .ok (.goto 7, 3) := by decide +kernel
theorem dL_levelAt_13 : decode cL_levelAt 13 = .ok (.astore 4, 2) := by decide +kernel
theorem dL_levelAt_15 : decode cL_levelAt 15 = .ok (.iconst 1, 1) := by decide +kernel
theorem dL_levelAt_16 : decode cL_levelAt 16 = .ok (.ireturn, 1) := by decide +kernel
theorem dL_levelAt_17 : decode cL_levelAt 17 = .ok (.iconst 0, 1) := by decide +kernel
theorem dL_levelAt_18 : decode cL_levelAt 18 = .ok (.ireturn, 1) := by decide +kernel
theorem dL_edges_0 : decode cL_edges 0 = .ok (.aload_n 2, 1) := by decide +kernel
theorem dL_edges_1 : decode cL_edges 1 = .ok (.iconst 0, 1) := by decide +kernel
theorem dL_edges_2 : decode cL_edges 2 = .ok (.aload_n 0, 1) := by decide +kernel
theorem dL_edges_3 : decode cL_edges 3 = .ok (.iload_n 1, 1) := by decide +kernel
theorem dL_edges_4 : decode cL_edges 4 = .ok (.invokevirtual 69, 3) := by decide +kernel
theorem dL_edges_7 : decode cL_edges 7 = .ok (.i2l, 1) := by decide +kernel
theorem dL_edges_8 : decode cL_edges 8 = .ok (.lastore, 1) := by decide +kernel
theorem dL_edges_9 : decode cL_edges 9 = .ok (.goto 6, 3) := by decide +kernel
theorem dL_edges_12 : decode cL_edges 12 = .ok (.astore_n 3, 1) := by decide +kernel
theorem dL_edges_13 : decode cL_edges 13 = .ok (.iconst 1, 1) := by decide +kernel
theorem dL_edges_14 : decode cL_edges 14 = .ok (.ireturn, 1) := by decide +kernel
theorem dL_edges_15 : decode cL_edges 15 = .ok (.iconst 0, 1) := by decide +kernel
theorem dL_edges_16 : decode cL_edges 16 = .ok (.ireturn, 1) := by decide +kernel
theorem dL_highTime_0 : decode cL_highTime 0 = .ok (.aload_n 2, 1) := by decide +kernel
theorem dL_highTime_1 : decode cL_highTime 1 = .ok (.iconst 0, 1) := by decide +kernel
theorem dL_highTime_2 : decode cL_highTime 2 = .ok (.aload_n 0, 1) := by decide +kernel
theorem dL_highTime_3 : decode cL_highTime 3 = .ok (.iload_n 1, 1) := by decide +kernel
theorem dL_highTime_4 : decode cL_highTime 4 = .ok (.invokevirtual 72, 3) := by decide +kernel
theorem dL_highTime_7 : decode cL_highTime 7 = .ok (.i2l, 1) := by decide +kernel
theorem dL_highTime_8 : decode cL_highTime 8 = .ok (.lastore, 1) := by decide +kernel
theorem dL_highTime_9 : decode cL_highTime 9 = .ok (.goto 6, 3) := by decide +kernel
theorem dL_highTime_12 : decode cL_highTime 12 = .ok (.astore_n 3, 1) := by decide +kernel
theorem dL_highTime_13 : decode cL_highTime 13 = .ok (.iconst 1, 1) := by decide +kernel
theorem dL_highTime_14 : decode cL_highTime 14 = .ok (.ireturn, 1) := by decide +kernel
theorem dL_highTime_15 : decode cL_highTime 15 = .ok (.iconst 0, 1) := by decide +kernel
theorem dL_highTime_16 : decode cL_highTime 16 = .ok (.ireturn, 1) := by decide +kernel
theorem dL_put_0 : decode cL_put 0 = .ok (.aload_n 3, 1) := by decide +kernel
theorem dL_put_1 : decode cL_put 1 = .ok (.iconst 0, 1) := by decide +kernel
theorem dL_put_2 : decode cL_put 2 = .ok (.aload_n 0, 1) := by decide +kernel
theorem dL_put_3 : decode cL_put 3 = .ok (.iload_n 1, 1) := by decide +kernel
theorem dL_put_4 : decode cL_put 4 = .ok (.iload_n 2, 1) := by decide +kernel
theorem dL_put_5 : decode cL_put 5 = .ok (.invokevirtual 75, 3) := by decide +kernel
theorem dL_put_8 : decode cL_put 8 = .ok (.i2l, 1) := by decide +kernel
theorem dL_put_9 : decode cL_put 9 = .ok (.lastore, 1) := by decide +kernel
theorem dL_put_10 : decode cL_put 10 = .ok (.goto 7, 3) := by decide +kernel
theorem dL_put_13 : decode cL_put 13 = .ok (.astore 4, 2) := by decide +kernel
theorem dL_put_15 : decode cL_put 15 = .ok (.iconst 1, 1) := by decide +kernel
theorem dL_put_16 : decode cL_put 16 = .ok (.ireturn, 1) := by decide +kernel
theorem dL_put_17 : decode cL_put 17 = .ok (.iconst 0, 1) := by decide +kernel
theorem dL_put_18 : decode cL_put 18 = .ok (.ireturn, 1) := by decide +kernel
theorem dL_take_0 : decode cL_take 0 = .ok (.aload_n 2, 1) := by decide +kernel
theorem dL_take_1 : decode cL_take 1 = .ok (.iconst 0, 1) := by decide +kernel
theorem dL_take_2 : decode cL_take 2 = .ok (.aload_n 0, 1) := by decide +kernel
theorem dL_take_3 : decode cL_take 3 = .ok (.iload_n 1, 1) := by decide +kernel
theorem dL_take_4 : decode cL_take 4 = .ok (.invokevirtual 78, 3) := by decide +kernel
theorem dL_take_7 : decode cL_take 7 = .ok (.lastore, 1) := by decide +kernel
theorem dL_take_8 : decode cL_take 8 = .ok (.goto 6, 3) := by decide +kernel
theorem dL_take_11 : decode cL_take 11 = .ok (.astore_n 3, 1) := by decide +kernel
theorem dL_take_12 : decode cL_take 12 = .ok (.iconst 1, 1) := by decide +kernel
theorem dL_take_13 : decode cL_take 13 = .ok (.ireturn, 1) := by decide +kernel
theorem dL_take_14 : decode cL_take 14 = .ok (.iconst 0, 1) := by decide +kernel
theorem dL_take_15 : decode cL_take 15 = .ok (.ireturn, 1) := by decide +kernel
theorem dL_enable_0 : decode cL_enable 0 = .ok (.aload_n 3, 1) := by decide +kernel
theorem dL_enable_1 : decode cL_enable 1 = .ok (.iconst 0, 1) := by decide +kernel
theorem dL_enable_2 : decode cL_enable 2 = .ok (.aload_n 0, 1) := by decide +kernel
theorem dL_enable_3 : decode cL_enable 3 = .ok (.iload_n 1, 1) := by decide +kernel
theorem dL_enable_4 : decode cL_enable 4 = .ok (.iload_n 2, 1) := by decide +kernel
theorem dL_enable_5 : decode cL_enable 5 = .ok (.invokevirtual 82, 3) := by decide +kernel
theorem dL_enable_8 : decode cL_enable 8 = .ok (.ifCond .eq 7, 3) := by decide +kernel
theorem dL_enable_11 : decode cL_enable 11 = .ok (.lconst 1, 1) := by decide +kernel
theorem dL_enable_12 : decode cL_enable 12 = .ok (.goto 4, 3) := by decide +kernel
theorem dL_enable_15 : decode cL_enable 15 = .ok (.lconst 0, 1) := by decide +kernel
theorem dL_enable_16 : decode cL_enable 16 = .ok (.lastore, 1) := by decide +kernel
theorem dL_enable_17 : decode cL_enable 17 = .ok (.goto 7, 3) := by decide +kernel
theorem dL_enable_20 : decode cL_enable 20 = .ok (.astore 4, 2) := by decide +kernel
theorem dL_enable_22 : decode cL_enable 22 = .ok (.iconst 1, 1) := by decide +kernel
theorem dL_enable_23 : decode cL_enable 23 = .ok (.ireturn, 1) := by decide +kernel
theorem dL_enable_24 : decode cL_enable 24 = .ok (.iconst 0, 1) := by decide +kernel
theorem dL_enable_25 : decode cL_enable 25 = .ok (.ireturn, 1) := by decide +kernel
theorem dL_restart_0 : decode cL_restart 0 = .ok (.aload_n 2, 1) := by decide +kernel
theorem dL_restart_1 : decode cL_restart 1 = .ok (.iconst 0, 1) := by decide +kernel
theorem dL_restart_2 : decode cL_restart 2 = .ok (.aload_n 0, 1) := by decide +kernel
theorem dL_restart_3 : decode cL_restart 3 = .ok (.iload_n 1, 1) := by decide +kernel
theorem dL_restart_4 : decode cL_restart 4 = .ok (.invokevirtual 86, 3) := by decide +kernel
theorem dL_restart_7 : decode cL_restart 7 = .ok (.i2l, 1) := by decide +kernel
theorem dL_restart_8 : decode cL_restart 8 = .ok (.lastore, 1) := by decide +kernel
theorem dL_restart_9 : decode cL_restart 9 = .ok (.goto 6, 3) := by decide +kernel
theorem dL_restart_12 : decode cL_restart 12 = .ok (.astore_n 3, 1) := by decide +kernel
theorem dL_restart_13 : decode cL_restart 13 = .ok (.iconst 1, 1) := by decide +kernel
theorem dL_restart_14 : decode cL_restart 14 = .ok (.ireturn, 1) := by decide +kernel
theorem dL_restart_15 : decode cL_restart 15 = .ok (.iconst 0, 1) := by decide +kernel
theorem dL_restart_16 : decode cL_restart 16 = .ok (.ireturn, 1) := by decide +kernel
theorem dL_drive_0 : decode cL_drive 0 = .ok (.aload_n 3, 1) := by decide +kernel
theorem dL_drive_1 : decode cL_drive 1 = .ok (.iconst 0, 1) := by decide +kernel
theorem dL_drive_2 : decode cL_drive 2 = .ok (.aload_n 0, 1) := by decide +kernel
theorem dL_drive_3 : decode cL_drive 3 = .ok (.iload_n 1, 1) := by decide +kernel
theorem dL_drive_4 : decode cL_drive 4 = .ok (.iload_n 2, 1) := by decide +kernel
theorem dL_drive_5 : decode cL_drive 5 = .ok (.invokevirtual 89, 3) := by decide +kernel
theorem dL_drive_8 : decode cL_drive 8 = .ok (.i2l, 1) := by decide +kernel
theorem dL_drive_9 : decode cL_drive 9 = .ok (.lastore, 1) := by decide +kernel
theorem dL_drive_10 : decode cL_drive 10 = .ok (.goto 11, 3) := by decide +kernel
theorem dL_drive_13 : decode cL_drive 13 = .ok (.astore 4, 2) := by decide +kernel
theorem dL_drive_15 : decode cL_drive 15 = .ok (.iconst 1, 1) := by decide +kernel
theorem dL_drive_16 : decode cL_drive 16 = .ok (.ireturn, 1) := by decide +kernel
theorem dL_drive_17 : decode cL_drive 17 = .ok (.astore 4, 2) := by decide +kernel
theorem dL_drive_19 : decode cL_drive 19 = .ok (.iconst 2, 1) := by decide +kernel
theorem dL_drive_20 : decode cL_drive 20 = .ok (.ireturn, 1) := by decide +kernel
theorem dL_drive_21 : decode cL_drive 21 = .ok (.iconst 0, 1) := by decide +kernel
theorem dL_drive_22 : decode cL_drive 22 = .ok (.ireturn, 1) := by decide +kernel
theorem dL_schedule_0 : decode cL_schedule 0 = .ok (.aload 4, 2) := by decide +kernel
theorem dL_schedule_2 : decode cL_schedule 2 = .ok (.iconst 0, 1) := by decide +kernel
theorem dL_schedule_3 : decode cL_schedule 3 = .ok (.aload_n 0, 1) := by decide +kernel
theorem dL_schedule_4 : decode cL_schedule 4 = .ok (.iload_n 1, 1) := by decide +kernel
theorem dL_schedule_5 : decode cL_schedule 5 = .ok (.iload_n 2, 1) := by decide +kernel
theorem dL_schedule_6 : decode cL_schedule 6 = .ok (.iload_n 3, 1) := by decide +kernel
theorem dL_schedule_7 : decode cL_schedule 7 = .ok (.invokevirtual 92, 3) := by decide +kernel
theorem dL_schedule_10 : decode cL_schedule 10 = .ok (.i2l, 1) := by decide +kernel
theorem dL_schedule_11 : decode cL_schedule 11 = .ok (.lastore, 1) := by decide +kernel
theorem dL_schedule_12 : decode cL_schedule 12 = .ok (.goto 11, 3) := by decide +kernel
theorem dL_schedule_15 : decode cL_schedule 15 = .ok (.astore 5, 2) := by decide +kernel
theorem dL_schedule_17 : decode cL_schedule 17 = .ok (.iconst 1, 1) := by decide +kernel
theorem dL_schedule_18 : decode cL_schedule 18 = .ok (.ireturn, 1) := by decide +kernel
theorem dL_schedule_19 : decode cL_schedule 19 = .ok (.astore 5, 2) := by decide +kernel
theorem dL_schedule_21 : decode cL_schedule 21 = .ok (.iconst 2, 1) := by decide +kernel
theorem dL_schedule_22 : decode cL_schedule 22 = .ok (.ireturn, 1) := by decide +kernel
theorem dL_schedule_23 : decode cL_schedule 23 = .ok (.iconst 0, 1) := by decide +kernel
theorem dL_schedule_24 : decode cL_schedule 24 = .ok (.ireturn, 1) := by decide +kernel
theorem dL_poke_0 : decode cL_poke 0 = .ok (.aload_n 3, 1) := by decide +kernel
theorem dL_poke_1 : decode cL_poke 1 = .ok (.iconst 0, 1) := by decide +kernel
theorem dL_poke_2 : decode cL_poke 2 = .ok (.aload_n 0, 1) := by decide +kernel
theorem dL_poke_3 : decode cL_poke 3 = .ok (.iload_n 1, 1) := by decide +kernel
theorem dL_poke_4 : decode cL_poke 4 = .ok (.iload_n 2, 1) := by decide +kernel
theorem dL_poke_5 : decode cL_poke 5 = .ok (.invokevirtual 96, 3) := by decide +kernel
theorem dL_poke_8 : decode cL_poke 8 = .ok (.i2l, 1) := by decide +kernel
theorem dL_poke_9 : decode cL_poke 9 = .ok (.lastore, 1) := by decide +kernel
theorem dL_poke_10 : decode cL_poke 10 = .ok (.goto 7, 3) := by decide +kernel
theorem dL_poke_13 : decode cL_poke 13 = .ok (.astore 4, 2) := by decide +kernel
theorem dL_poke_15 : decode cL_poke 15 = .ok (.iconst 1, 1) := by decide +kernel
theorem dL_poke_16 : decode cL_poke 16 = .ok (.ireturn, 1) := by decide +kernel
theorem dL_poke_17 : decode cL_poke 17 = .ok (.iconst 0, 1) := by decide +kernel
theorem dL_poke_18 : decode cL_poke 18 = .ok (.ireturn, 1) := by decide +kernel
theorem dL_run_0 : decode cL_run 0 = .ok (.aload_n 2, 1) := by decide +kernel
theorem dL_run_1 : decode cL_run 1 = .ok (.iconst 0, 1) := by decide +kernel
theorem dL_run_2 : decode cL_run 2 = .ok (.aload_n 0, 1) := by decide +kernel
theorem dL_run_3 : decode cL_run 3 = .ok (.iload_n 1, 1) := by decide +kernel
theorem dL_run_4 : decode cL_run 4 = .ok (.invokevirtual 99, 3) := by decide +kernel
theorem dL_run_7 : decode cL_run 7 = .ok (.i2l, 1) := by decide +kernel
theorem dL_run_8 : decode cL_run 8 = .ok (.lastore, 1) := by decide +kernel
theorem dL_run_9 : decode cL_run 9 = .ok (.goto 6, 3) := by decide +kernel
theorem dL_run_12 : decode cL_run 12 = .ok (.astore_n 3, 1) := by decide +kernel
theorem dL_run_13 : decode cL_run 13 = .ok (.iconst 1, 1) := by decide +kernel
theorem dL_run_14 : decode cL_run 14 = .ok (.ireturn, 1) := by decide +kernel
theorem dL_run_15 : decode cL_run 15 = .ok (.iconst 0, 1) := by decide +kernel
theorem dL_run_16 : decode cL_run 16 = .ok (.ireturn, 1) := by decide +kernel
theorem dL_cyclesUntil_0 : decode cL_cyclesUntil 0 = .ok (.aload 4, 2) := by decide +kernel
theorem dL_cyclesUntil_2 : decode cL_cyclesUntil 2 = .ok (.iconst 0, 1) := by decide +kernel
theorem dL_cyclesUntil_3 : decode cL_cyclesUntil 3 = .ok (.aload_n 0, 1) := by decide +kernel
theorem dL_cyclesUntil_4 : decode cL_cyclesUntil 4 = .ok (.iload_n 1, 1) := by decide +kernel
theorem dL_cyclesUntil_5 : decode cL_cyclesUntil 5 = .ok (.iload_n 2, 1) := by decide +kernel
theorem dL_cyclesUntil_6 : decode cL_cyclesUntil 6 = .ok (.iload_n 3, 1) := by decide +kernel
theorem dL_cyclesUntil_7 : decode cL_cyclesUntil 7 = .ok (.invokevirtual 102, 3) := by decide +kernel
theorem dL_cyclesUntil_10 : decode cL_cyclesUntil 10 = .ok (.i2l, 1) := by decide +kernel
theorem dL_cyclesUntil_11 : decode cL_cyclesUntil 11 = .ok (.lastore, 1) := by decide +kernel
theorem dL_cyclesUntil_12 : decode cL_cyclesUntil 12 = .ok (.goto 11, 3) := by decide +kernel
theorem dL_cyclesUntil_15 : decode cL_cyclesUntil 15 = .ok (.astore 5, 2) := by decide +kernel
theorem dL_cyclesUntil_17 : decode cL_cyclesUntil 17 = .ok (.iconst 1, 1) := by decide +kernel
theorem dL_cyclesUntil_18 : decode cL_cyclesUntil 18 = .ok (.ireturn, 1) := by decide +kernel
theorem dL_cyclesUntil_19 : decode cL_cyclesUntil 19 = .ok (.astore 5, 2) := by decide +kernel
theorem dL_cyclesUntil_21 : decode cL_cyclesUntil 21 = .ok (.iconst 2, 1) := by decide +kernel
theorem dL_cyclesUntil_22 : decode cL_cyclesUntil 22 = .ok (.ireturn, 1) := by decide +kernel
theorem dL_cyclesUntil_23 : decode cL_cyclesUntil 23 = .ok (.iconst 0, 1) := by decide +kernel
theorem dL_cyclesUntil_24 : decode cL_cyclesUntil 24 = .ok (.ireturn, 1) := by decide +kernel
theorem dL_cyclesTo_0 : decode cL_cyclesTo 0 = .ok (.aload 4, 2) := by decide +kernel
theorem dL_cyclesTo_2 : decode cL_cyclesTo 2 = .ok (.iconst 0, 1) := by decide +kernel
theorem dL_cyclesTo_3 : decode cL_cyclesTo 3 = .ok (.aload_n 0, 1) := by decide +kernel
theorem dL_cyclesTo_4 : decode cL_cyclesTo 4 = .ok (.iload_n 1, 1) := by decide +kernel
theorem dL_cyclesTo_5 : decode cL_cyclesTo 5 = .ok (.iload_n 2, 1) := by decide +kernel
theorem dL_cyclesTo_6 : decode cL_cyclesTo 6 = .ok (.iload_n 3, 1) := by decide +kernel
theorem dL_cyclesTo_7 : decode cL_cyclesTo 7 = .ok (.invokevirtual 105, 3) := by decide +kernel
theorem dL_cyclesTo_10 : decode cL_cyclesTo 10 = .ok (.i2l, 1) := by decide +kernel
theorem dL_cyclesTo_11 : decode cL_cyclesTo 11 = .ok (.lastore, 1) := by decide +kernel
theorem dL_cyclesTo_12 : decode cL_cyclesTo 12 = .ok (.goto 11, 3) := by decide +kernel
theorem dL_cyclesTo_15 : decode cL_cyclesTo 15 = .ok (.astore 5, 2) := by decide +kernel
theorem dL_cyclesTo_17 : decode cL_cyclesTo 17 = .ok (.iconst 1, 1) := by decide +kernel
theorem dL_cyclesTo_18 : decode cL_cyclesTo 18 = .ok (.ireturn, 1) := by decide +kernel
theorem dL_cyclesTo_19 : decode cL_cyclesTo 19 = .ok (.astore 5, 2) := by decide +kernel
theorem dL_cyclesTo_21 : decode cL_cyclesTo 21 = .ok (.iconst 2, 1) := by decide +kernel
theorem dL_cyclesTo_22 : decode cL_cyclesTo 22 = .ok (.ireturn, 1) := by decide +kernel
theorem dL_cyclesTo_23 : decode cL_cyclesTo 23 = .ok (.iconst 0, 1) := by decide +kernel
theorem dL_cyclesTo_24 : decode cL_cyclesTo 24 = .ok (.ireturn, 1) := by decide +kernel
theorem dL_period_0 : decode cL_period 0 = .ok (.aload_n 3, 1) := by decide +kernel
theorem dL_period_1 : decode cL_period 1 = .ok (.iconst 0, 1) := by decide +kernel
theorem dL_period_2 : decode cL_period 2 = .ok (.aload_n 0, 1) := by decide +kernel
theorem dL_period_3 : decode cL_period 3 = .ok (.iload_n 1, 1) := by decide +kernel
theorem dL_period_4 : decode cL_period 4 = .ok (.iload_n 2, 1) := by decide +kernel
theorem dL_period_5 : decode cL_period 5 = .ok (.invokevirtual 108, 3) := by decide +kernel
theorem dL_period_8 : decode cL_period 8 = .ok (.i2l, 1) := by decide +kernel
theorem dL_period_9 : decode cL_period 9 = .ok (.lastore, 1) := by decide +kernel
theorem dL_period_10 : decode cL_period 10 = .ok (.goto 11, 3) := by decide +kernel
theorem dL_period_13 : decode cL_period 13 = .ok (.astore 4, 2) := by decide +kernel
theorem dL_period_15 : decode cL_period 15 = .ok (.iconst 1, 1) := by decide +kernel
theorem dL_period_16 : decode cL_period 16 = .ok (.ireturn, 1) := by decide +kernel
theorem dL_period_17 : decode cL_period 17 = .ok (.astore 4, 2) := by decide +kernel
theorem dL_period_19 : decode cL_period 19 = .ok (.iconst 2, 1) := by decide +kernel
theorem dL_period_20 : decode cL_period 20 = .ok (.ireturn, 1) := by decide +kernel
theorem dL_period_21 : decode cL_period 21 = .ok (.iconst 0, 1) := by decide +kernel
theorem dL_period_22 : decode cL_period 22 = .ok (.ireturn, 1) := by decide +kernel
theorem dL_stuck_0 : decode cL_stuck 0 = .ok (.aload_n 2, 1) := by decide +kernel
theorem dL_stuck_1 : decode cL_stuck 1 = .ok (.iconst 0, 1) := by decide +kernel
theorem dL_stuck_2 : decode cL_stuck 2 = .ok (.aload_n 0, 1) := by decide +kernel
theorem dL_stuck_3 : decode cL_stuck 3 = .ok (.iload_n 1, 1) := by decide +kernel
theorem dL_stuck_4 : decode cL_stuck 4 = .ok (.invokevirtual 111, 3) := by decide +kernel
theorem dL_stuck_7 : decode cL_stuck 7 = .ok (.i2l, 1) := by decide +kernel
theorem dL_stuck_8 : decode cL_stuck 8 = .ok (.lastore, 1) := by decide +kernel
theorem dL_stuck_9 : decode cL_stuck 9 = .ok (.goto 6, 3) := by decide +kernel
theorem dL_stuck_12 : decode cL_stuck 12 = .ok (.astore_n 3, 1) := by decide +kernel
theorem dL_stuck_13 : decode cL_stuck 13 = .ok (.iconst 1, 1) := by decide +kernel
theorem dL_stuck_14 : decode cL_stuck 14 = .ok (.ireturn, 1) := by decide +kernel
theorem dL_stuck_15 : decode cL_stuck 15 = .ok (.iconst 0, 1) := by decide +kernel
theorem dL_stuck_16 : decode cL_stuck 16 = .ok (.ireturn, 1) := by decide +kernel
theorem dL_divider_0 : decode cL_divider 0 = .ok (.aload_n 3, 1) := by decide +kernel
theorem dL_divider_1 : decode cL_divider 1 = .ok (.iconst 0, 1) := by decide +kernel
theorem dL_divider_2 : decode cL_divider 2 = .ok (.aload_n 0, 1) := by decide +kernel
theorem dL_divider_3 : decode cL_divider 3 = .ok (.iload_n 1, 1) := by decide +kernel
theorem dL_divider_4 : decode cL_divider 4 = .ok (.iload_n 2, 1) := by decide +kernel
theorem dL_divider_5 : decode cL_divider 5 = .ok (.invokevirtual 114, 3) := by decide +kernel
theorem dL_divider_8 : decode cL_divider 8 = .ok (.i2l, 1) := by decide +kernel
theorem dL_divider_9 : decode cL_divider 9 = .ok (.lastore, 1) := by decide +kernel
theorem dL_divider_10 : decode cL_divider 10 = .ok (.goto 7, 3) := by decide +kernel
theorem dL_divider_13 : decode cL_divider 13 = .ok (.astore 4, 2) := by decide +kernel
theorem dL_divider_15 : decode cL_divider 15 = .ok (.iconst 1, 1) := by decide +kernel
theorem dL_divider_16 : decode cL_divider 16 = .ok (.ireturn, 1) := by decide +kernel
theorem dL_divider_17 : decode cL_divider 17 = .ok (.iconst 0, 1) := by decide +kernel
theorem dL_divider_18 : decode cL_divider 18 = .ok (.ireturn, 1) := by decide +kernel
theorem dL_format_0 : decode cL_format 0 = .ok (.aload_n 2, 1) := by decide +kernel
theorem dL_format_1 : decode cL_format 1 = .ok (.iconst 0, 1) := by decide +kernel
theorem dL_format_2 : decode cL_format 2 = .ok (.aload_n 0, 1) := by decide +kernel
theorem dL_format_3 : decode cL_format 3 = .ok (.iload_n 1, 1) := by decide +kernel
theorem dL_format_4 : decode cL_format 4 = .ok (.invokevirtual 117, 3) := by decide +kernel
theorem dL_format_7 : decode cL_format 7 = .ok (.i2l, 1) := by decide +kernel
theorem dL_format_8 : decode cL_format 8 = .ok (.lastore, 1) := by decide +kernel
theorem dL_format_9 : decode cL_format 9 = .ok (.goto 6, 3) := by decide +kernel
theorem dL_format_12 : decode cL_format 12 = .ok (.astore_n 3, 1) := by decide +kernel
theorem dL_format_13 : decode cL_format 13 = .ok (.iconst 1, 1) := by decide +kernel
theorem dL_format_14 : decode cL_format 14 = .ok (.ireturn, 1) := by decide +kernel
theorem dL_format_15 : decode cL_format 15 = .ok (.iconst 0, 1) := by decide +kernel
theorem dL_format_16 : decode cL_format 16 = .ok (.ireturn, 1) := by decide +kernel
theorem dL_query_0 : decode cL_query 0 = .ok (.aload_n 2, 1) := by decide +kernel
theorem dL_query_1 : decode cL_query 1 = .ok (.iconst 0, 1) := by decide +kernel
theorem dL_query_2 : decode cL_query 2 = .ok (.aload_n 0, 1) := by decide +kernel
theorem dL_query_3 : decode cL_query 3 = .ok (.iload_n 1, 1) := by decide +kernel
theorem dL_query_4 : decode cL_query 4 = .ok (.invokevirtual 120, 3) := by decide +kernel
theorem dL_query_7 : decode cL_query 7 = .ok (.i2l, 1) := by decide +kernel
theorem dL_query_8 : decode cL_query 8 = .ok (.lastore, 1) := by decide +kernel
theorem dL_query_9 : decode cL_query 9 = .ok (.goto 6, 3) := by decide +kernel
theorem dL_query_12 : decode cL_query 12 = .ok (.astore_n 3, 1) := by decide +kernel
theorem dL_query_13 : decode cL_query 13 = .ok (.iconst 1, 1) := by decide +kernel
theorem dL_query_14 : decode cL_query 14 = .ok (.ireturn, 1) := by decide +kernel
theorem dL_query_15 : decode cL_query 15 = .ok (.iconst 0, 1) := by decide +kernel
theorem dL_query_16 : decode cL_query 16 = .ok (.ireturn, 1) := by decide +kernel
