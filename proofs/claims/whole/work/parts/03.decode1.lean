theorem dX1_init_0 : decode cX1_init 0 = .ok (.aload_n 0, 1) := by decide +kernel
theorem dX1_init_1 : decode cX1_init 1 = .ok (.invokespecial 3, 3) := by decide +kernel
theorem dX1_init_4 : decode cX1_init 4 = .ok (.aload_n 0, 1) := by decide +kernel
theorem dX1_init_5 : decode cX1_init 5 = .ok (.new 9, 3) := by decide +kernel
theorem dX1_init_8 : decode cX1_init 8 = .ok (.dup, 1) := by decide +kernel
theorem dX1_init_9 : decode cX1_init 9 = .ok (.invokespecial 11, 3) := by decide +kernel
theorem dX1_init_12 : decode cX1_init 12 = .ok (.putfield 12, 3) := by decide +kernel
theorem dX1_init_15 : decode cX1_init 15 = .ok (.aload_n 0, 1) := by decide +kernel
theorem dX1_init_16 : decode cX1_init 16 = .ok (.new 9, 3) := by decide +kernel
theorem dX1_init_19 : decode cX1_init 19 = .ok (.dup, 1) := by decide +kernel
theorem dX1_init_20 : decode cX1_init 20 = .ok (.invokespecial 11, 3) := by decide +kernel
theorem dX1_init_23 : decode cX1_init 23 = .ok (.putfield 18, 3) := by decide +kernel
theorem dX1_init_26 : decode cX1_init 26 = .ok (.aload_n 0, 1) := by decide +kernel
theorem dX1_init_27 : decode cX1_init 27 = .ok (.bipush 6, 2) := by decide +kernel
theorem dX1_init_29 : decode cX1_init 29 = .ok (.newarray .int, 2) := by decide +kernel
theorem dX1_init_31 : decode cX1_init 31 = .ok (.putfield 21, 3) := by decide +kernel
theorem dX1_init_34 : decode cX1_init 34 = .ok (.return_, 1) := by decide +kernel
theorem dX1_begin_0 : decode cX1_begin 0 = .ok (.aload_n 0, 1) := by decide +kernel
theorem dX1_begin_1 : decode cX1_begin 1 = .ok (.aload_n 1, 1) := by decide +kernel
theorem dX1_begin_2 : decode cX1_begin 2 = .ok (.invokevirtual 25, 3) := by decide +kernel
theorem dX1_begin_5 : decode cX1_begin 5 = .ok (.aload_n 0, 1) := by decide +kernel
theorem dX1_begin_6 : decode cX1_begin 6 = .ok (.iconst 1, 1) := by decide +kernel
theorem dX1_begin_7 : decode cX1_begin 7 = .ok (.putfield 29, 3) := by decide +kernel
theorem dX1_begin_10 : decode cX1_begin 10 = .ok (.iconst 0, 1) := by decide +kernel
theorem dX1_begin_11 : decode cX1_begin 11 = .ok (.istore_n 2, 1) := by decide +kernel
theorem dX1_begin_12 : decode cX1_begin 12 = .ok (.iload_n 2, 1) := by decide +kernel
theorem dX1_begin_13 : decode cX1_begin 13 = .ok (.bipush 6, 2) := by decide +kernel
theorem dX1_begin_15 : decode cX1_begin 15 = .ok (.if_icmp .ge 16, 3) := by decide +kernel
theorem dX1_begin_18 : decode cX1_begin 18 = .ok (.aload_n 0, 1) := by decide +kernel
theorem dX1_begin_19 : decode cX1_begin 19 = .ok (.getfield 21, 3) := by decide +kernel
theorem dX1_begin_22 : decode cX1_begin 22 = .ok (.iload_n 2, 1) := by decide +kernel
theorem dX1_begin_23 : decode cX1_begin 23 = .ok (.iconst 0, 1) := by decide +kernel
theorem dX1_begin_24 : decode cX1_begin 24 = .ok (.iastore, 1) := by decide +kernel
theorem dX1_begin_25 : decode cX1_begin 25 = .ok (.iinc 2 1, 3) := by decide +kernel
theorem dX1_begin_28 : decode cX1_begin 28 = .ok (.goto (-16), 3) := by decide +kernel
theorem dX1_begin_31 : decode cX1_begin 31 = .ok (.return_, 1) := by decide +kernel
theorem dX1_reset_0 : decode cX1_reset 0 = .ok (.aload_n 0, 1) := by decide +kernel
theorem dX1_reset_1 : decode cX1_reset 1 = .ok (.aload_n 1, 1) := by decide +kernel
theorem dX1_reset_2 : decode cX1_reset 2 = .ok (.getfield 33, 3) := by decide +kernel
theorem dX1_reset_5 : decode cX1_reset 5 = .ok (.putfield 39, 3) := by decide +kernel
theorem dX1_reset_8 : decode cX1_reset 8 = .ok (.aload_n 0, 1) := by decide +kernel
theorem dX1_reset_9 : decode cX1_reset 9 = .ok (.iconst 0, 1) := by decide +kernel
theorem dX1_reset_10 : decode cX1_reset 10 = .ok (.putfield 42, 3) := by decide +kernel
theorem dX1_reset_13 : decode cX1_reset 13 = .ok (.aload_n 0, 1) := by decide +kernel
theorem dX1_reset_14 : decode cX1_reset 14 = .ok (.iconst 0, 1) := by decide +kernel
theorem dX1_reset_15 : decode cX1_reset 15 = .ok (.putfield 45, 3) := by decide +kernel
theorem dX1_reset_18 : decode cX1_reset 18 = .ok (.aload_n 0, 1) := by decide +kernel
theorem dX1_reset_19 : decode cX1_reset 19 = .ok (.iconst 0, 1) := by decide +kernel
theorem dX1_reset_20 : decode cX1_reset 20 = .ok (.putfield 48, 3) := by decide +kernel
theorem dX1_reset_23 : decode cX1_reset 23 = .ok (.aload_n 0, 1) := by decide +kernel
theorem dX1_reset_24 : decode cX1_reset 24 = .ok (.iconst 0, 1) := by decide +kernel
theorem dX1_reset_25 : decode cX1_reset 25 = .ok (.putfield 51, 3) := by decide +kernel
theorem dX1_reset_28 : decode cX1_reset 28 = .ok (.aload_n 0, 1) := by decide +kernel
theorem dX1_reset_29 : decode cX1_reset 29 = .ok (.iconst 0, 1) := by decide +kernel
theorem dX1_reset_30 : decode cX1_reset 30 = .ok (.putfield 54, 3) := by decide +kernel
theorem dX1_reset_33 : decode cX1_reset 33 = .ok (.aload_n 0, 1) := by decide +kernel
theorem dX1_reset_34 : decode cX1_reset 34 = .ok (.bipush 32, 2) := by decide +kernel
theorem dX1_reset_36 : decode cX1_reset 36 = .ok (.putfield 57, 3) := by decide +kernel
theorem dX1_reset_39 : decode cX1_reset 39 = .ok (.aload_n 0, 1) := by decide +kernel
theorem dX1_reset_40 : decode cX1_reset 40 = .ok (.iconst 0, 1) := by decide +kernel
theorem dX1_reset_41 : decode cX1_reset 41 = .ok (.putfield 60, 3) := by decide +kernel
theorem dX1_reset_44 : decode cX1_reset 44 = .ok (.aload_n 0, 1) := by decide +kernel
theorem dX1_reset_45 : decode cX1_reset 45 = .ok (.iconst 0, 1) := by decide +kernel
theorem dX1_reset_46 : decode cX1_reset 46 = .ok (.putfield 63, 3) := by decide +kernel
theorem dX1_reset_49 : decode cX1_reset 49 = .ok (.aload_n 0, 1) := by decide +kernel
theorem dX1_reset_50 : decode cX1_reset 50 = .ok (.aload_n 1, 1) := by decide +kernel
theorem dX1_reset_51 : decode cX1_reset 51 = .ok (.getfield 66, 3) := by decide +kernel
theorem dX1_reset_54 : decode cX1_reset 54 = .ok (.sipush 256, 3) := by decide +kernel
theorem dX1_reset_57 : decode cX1_reset 57 = .ok (.isub, 1) := by decide +kernel
theorem dX1_reset_58 : decode cX1_reset 58 = .ok (.putfield 69, 3) := by decide +kernel
theorem dX1_reset_61 : decode cX1_reset 61 = .ok (.aload_n 0, 1) := by decide +kernel
theorem dX1_reset_62 : decode cX1_reset 62 = .ok (.getfield 12, 3) := by decide +kernel
theorem dX1_reset_65 : decode cX1_reset 65 = .ok (.aload_n 1, 1) := by decide +kernel
theorem dX1_reset_66 : decode cX1_reset 66 = .ok (.getfield 72, 3) := by decide +kernel
theorem dX1_reset_69 : decode cX1_reset 69 = .ok (.invokevirtual 75, 3) := by decide +kernel
theorem dX1_reset_72 : decode cX1_reset 72 = .ok (.aload_n 0, 1) := by decide +kernel
theorem dX1_reset_73 : decode cX1_reset 73 = .ok (.getfield 18, 3) := by decide +kernel
theorem dX1_reset_76 : decode cX1_reset 76 = .ok (.aload_n 1, 1) := by decide +kernel
theorem dX1_reset_77 : decode cX1_reset 77 = .ok (.invokevirtual 79, 3) := by decide +kernel
theorem dX1_reset_80 : decode cX1_reset 80 = .ok (.invokevirtual 75, 3) := by decide +kernel
theorem dX1_reset_83 : decode cX1_reset 83 = .ok (.return_, 1) := by decide +kernel
theorem dX1_copyFrom_0 : decode cX1_copyFrom 0 = .ok (.aload_n 0, 1) := by decide +kernel
theorem dX1_copyFrom_1 : decode cX1_copyFrom 1 = .ok (.aload_n 1, 1) := by decide +kernel
theorem dX1_copyFrom_2 : decode cX1_copyFrom 2 = .ok (.getfield 39, 3) := by decide +kernel
theorem dX1_copyFrom_5 : decode cX1_copyFrom 5 = .ok (.putfield 39, 3) := by decide +kernel
theorem dX1_copyFrom_8 : decode cX1_copyFrom 8 = .ok (.aload_n 0, 1) := by decide +kernel
theorem dX1_copyFrom_9 : decode cX1_copyFrom 9 = .ok (.aload_n 1, 1) := by decide +kernel
theorem dX1_copyFrom_10 : decode cX1_copyFrom 10 = .ok (.getfield 42, 3) := by decide +kernel
theorem dX1_copyFrom_13 : decode cX1_copyFrom 13 = .ok (.putfield 42, 3) := by decide +kernel
theorem dX1_copyFrom_16 : decode cX1_copyFrom 16 = .ok (.aload_n 0, 1) := by decide +kernel
theorem dX1_copyFrom_17 : decode cX1_copyFrom 17 = .ok (.aload_n 1, 1) := by decide +kernel
theorem dX1_copyFrom_18 : decode cX1_copyFrom 18 = .ok (.getfield 45, 3) := by decide +kernel
theorem dX1_copyFrom_21 : decode cX1_copyFrom 21 = .ok (.putfield 45, 3) := by decide +kernel
theorem dX1_copyFrom_24 : decode cX1_copyFrom 24 = .ok (.aload_n 0, 1) := by decide +kernel
theorem dX1_copyFrom_25 : decode cX1_copyFrom 25 = .ok (.aload_n 1, 1) := by decide +kernel
theorem dX1_copyFrom_26 : decode cX1_copyFrom 26 = .ok (.getfield 48, 3) := by decide +kernel
theorem dX1_copyFrom_29 : decode cX1_copyFrom 29 = .ok (.putfield 48, 3) := by decide +kernel
theorem dX1_copyFrom_32 : decode cX1_copyFrom 32 = .ok (.aload_n 0, 1) := by decide +kernel
theorem dX1_copyFrom_33 : decode cX1_copyFrom 33 = .ok (.aload_n 1, 1) := by decide +kernel
theorem dX1_copyFrom_34 : decode cX1_copyFrom 34 = .ok (.getfield 51, 3) := by decide +kernel
theorem dX1_copyFrom_37 : decode cX1_copyFrom 37 = .ok (.putfield 51, 3) := by decide +kernel
theorem dX1_copyFrom_40 : decode cX1_copyFrom 40 = .ok (.aload_n 0, 1) := by decide +kernel
theorem dX1_copyFrom_41 : decode cX1_copyFrom 41 = .ok (.aload_n 1, 1) := by decide +kernel
theorem dX1_copyFrom_42 : decode cX1_copyFrom 42 = .ok (.getfield 54, 3) := by decide +kernel
theorem dX1_copyFrom_45 : decode cX1_copyFrom 45 = .ok (.putfield 54, 3) := by decide +kernel
theorem dX1_copyFrom_48 : decode cX1_copyFrom 48 = .ok (.aload_n 0, 1) := by decide +kernel
theorem dX1_copyFrom_49 : decode cX1_copyFrom 49 = .ok (.aload_n 1, 1) := by decide +kernel
theorem dX1_copyFrom_50 : decode cX1_copyFrom 50 = .ok (.getfield 57, 3) := by decide +kernel
theorem dX1_copyFrom_53 : decode cX1_copyFrom 53 = .ok (.putfield 57, 3) := by decide +kernel
theorem dX1_copyFrom_56 : decode cX1_copyFrom 56 = .ok (.aload_n 0, 1) := by decide +kernel
theorem dX1_copyFrom_57 : decode cX1_copyFrom 57 = .ok (.aload_n 1, 1) := by decide +kernel
theorem dX1_copyFrom_58 : decode cX1_copyFrom 58 = .ok (.getfield 60, 3) := by decide +kernel
theorem dX1_copyFrom_61 : decode cX1_copyFrom 61 = .ok (.putfield 60, 3) := by decide +kernel
theorem dX1_copyFrom_64 : decode cX1_copyFrom 64 = .ok (.aload_n 0, 1) := by decide +kernel
theorem dX1_copyFrom_65 : decode cX1_copyFrom 65 = .ok (.aload_n 1, 1) := by decide +kernel
theorem dX1_copyFrom_66 : decode cX1_copyFrom 66 = .ok (.getfield 63, 3) := by decide +kernel
theorem dX1_copyFrom_69 : decode cX1_copyFrom 69 = .ok (.putfield 63, 3) := by decide +kernel
theorem dX1_copyFrom_72 : decode cX1_copyFrom 72 = .ok (.aload_n 0, 1) := by decide +kernel
theorem dX1_copyFrom_73 : decode cX1_copyFrom 73 = .ok (.aload_n 1, 1) := by decide +kernel
theorem dX1_copyFrom_74 : decode cX1_copyFrom 74 = .ok (.getfield 69, 3) := by decide +kernel
theorem dX1_copyFrom_77 : decode cX1_copyFrom 77 = .ok (.putfield 69, 3) := by decide +kernel
theorem dX1_copyFrom_80 : decode cX1_copyFrom 80 = .ok (.aload_n 0, 1) := by decide +kernel
theorem dX1_copyFrom_81 : decode cX1_copyFrom 81 = .ok (.aload_n 1, 1) := by decide +kernel
theorem dX1_copyFrom_82 : decode cX1_copyFrom 82 = .ok (.getfield 29, 3) := by decide +kernel
theorem dX1_copyFrom_85 : decode cX1_copyFrom 85 = .ok (.putfield 29, 3) := by decide +kernel
theorem dX1_copyFrom_88 : decode cX1_copyFrom 88 = .ok (.aload_n 0, 1) := by decide +kernel
theorem dX1_copyFrom_89 : decode cX1_copyFrom 89 = .ok (.getfield 12, 3) := by decide +kernel
theorem dX1_copyFrom_92 : decode cX1_copyFrom 92 = .ok (.aload_n 1, 1) := by decide +kernel
theorem dX1_copyFrom_93 : decode cX1_copyFrom 93 = .ok (.getfield 12, 3) := by decide +kernel
theorem dX1_copyFrom_96 : decode cX1_copyFrom 96 = .ok (.invokevirtual 83, 3) := by decide +kernel
theorem dX1_copyFrom_99 : decode cX1_copyFrom 99 = .ok (.aload_n 0, 1) := by decide +kernel
theorem dX1_copyFrom_100 : decode cX1_copyFrom 100 = .ok (.getfield 18, 3) := by decide +kernel
theorem dX1_copyFrom_103 : decode cX1_copyFrom 103 = .ok (.aload_n 1, 1) := by decide +kernel
theorem dX1_copyFrom_104 : decode cX1_copyFrom 104 = .ok (.getfield 18, 3) := by decide +kernel
theorem dX1_copyFrom_107 : decode cX1_copyFrom 107 = .ok (.invokevirtual 83, 3) := by decide +kernel
theorem dX1_copyFrom_110 : decode cX1_copyFrom 110 = .ok (.aload_n 1, 1) := by decide +kernel
theorem dX1_copyFrom_111 : decode cX1_copyFrom 111 = .ok (.getfield 21, 3) := by decide +kernel
theorem dX1_copyFrom_114 : decode cX1_copyFrom 114 = .ok (.iconst 0, 1) := by decide +kernel
theorem dX1_copyFrom_115 : decode cX1_copyFrom 115 = .ok (.aload_n 0, 1) := by decide +kernel
theorem dX1_copyFrom_116 : decode cX1_copyFrom 116 = .ok (.getfield 21, 3) := by decide +kernel
theorem dX1_copyFrom_119 : decode cX1_copyFrom 119 = .ok (.iconst 0, 1) := by decide +kernel
theorem dX1_copyFrom_120 : decode cX1_copyFrom 120 = .ok (.bipush 6, 2) := by decide +kernel
theorem dX1_copyFrom_122 : decode cX1_copyFrom 122 = .ok (.invokestatic 87, 3) := by decide +kernel
theorem dX1_copyFrom_125 : decode cX1_copyFrom 125 = .ok (.return_, 1) := by decide +kernel
theorem dX1_countCycle_0 : decode cX1_countCycle 0 = .ok (.aload_n 0, 1) := by decide +kernel
theorem dX1_countCycle_1 : decode cX1_countCycle 1 = .ok (.getfield 29, 3) := by decide +kernel
theorem dX1_countCycle_4 : decode cX1_countCycle 4 = .ok (.ifCond .ne 5, 3) := by decide +kernel
theorem dX1_countCycle_7 : decode cX1_countCycle 7 = .ok (.iconst 0, 1) := by decide +kernel
theorem dX1_countCycle_8 : decode cX1_countCycle 8 = .ok (.ireturn, 1) := by decide +kernel
theorem dX1_countCycle_9 : decode cX1_countCycle 9 = .ok (.aload_n 0, 1) := by decide +kernel
theorem dX1_countCycle_10 : decode cX1_countCycle 10 = .ok (.dup, 1) := by decide +kernel
theorem dX1_countCycle_11 : decode cX1_countCycle 11 = .ok (.getfield 69, 3) := by decide +kernel
theorem dX1_countCycle_14 : decode cX1_countCycle 14 = .ok (.sipush 256, 3) := by decide +kernel
theorem dX1_countCycle_17 : decode cX1_countCycle 17 = .ok (.iadd, 1) := by decide +kernel
theorem dX1_countCycle_18 : decode cX1_countCycle 18 = .ok (.putfield 69, 3) := by decide +kernel
theorem dX1_countCycle_21 : decode cX1_countCycle 21 = .ok (.aload_n 0, 1) := by decide +kernel
theorem dX1_countCycle_22 : decode cX1_countCycle 22 = .ok (.getfield 69, 3) := by decide +kernel
theorem dX1_countCycle_25 : decode cX1_countCycle 25 = .ok (.aload_n 1, 1) := by decide +kernel
theorem dX1_countCycle_26 : decode cX1_countCycle 26 = .ok (.getfield 66, 3) := by decide +kernel
theorem dX1_countCycle_29 : decode cX1_countCycle 29 = .ok (.if_icmp .ge 5, 3) := by decide +kernel
theorem dX1_countCycle_32 : decode cX1_countCycle 32 = .ok (.iconst 0, 1) := by decide +kernel
theorem dX1_countCycle_33 : decode cX1_countCycle 33 = .ok (.ireturn, 1) := by decide +kernel
theorem dX1_countCycle_34 : decode cX1_countCycle 34 = .ok (.aload_n 0, 1) := by decide +kernel
theorem dX1_countCycle_35 : decode cX1_countCycle 35 = .ok (.dup, 1) := by decide +kernel
theorem dX1_countCycle_36 : decode cX1_countCycle 36 = .ok (.getfield 69, 3) := by decide +kernel
theorem dX1_countCycle_39 : decode cX1_countCycle 39 = .ok (.aload_n 1, 1) := by decide +kernel
theorem dX1_countCycle_40 : decode cX1_countCycle 40 = .ok (.getfield 66, 3) := by decide +kernel
theorem dX1_countCycle_43 : decode cX1_countCycle 43 = .ok (.isub, 1) := by decide +kernel
theorem dX1_countCycle_44 : decode cX1_countCycle 44 = .ok (.putfield 69, 3) := by decide +kernel
theorem dX1_countCycle_47 : decode cX1_countCycle 47 = .ok (.iconst 1, 1) := by decide +kernel
theorem dX1_countCycle_48 : decode cX1_countCycle 48 = .ok (.ireturn, 1) := by decide +kernel
theorem dX1_setIsr_0 : decode cX1_setIsr 0 = .ok (.aload_n 0, 1) := by decide +kernel
theorem dX1_setIsr_1 : decode cX1_setIsr 1 = .ok (.iload_n 1, 1) := by decide +kernel
theorem dX1_setIsr_2 : decode cX1_setIsr 2 = .ok (.putfield 48, 3) := by decide +kernel
theorem dX1_setIsr_5 : decode cX1_setIsr 5 = .ok (.aload_n 0, 1) := by decide +kernel
theorem dX1_setIsr_6 : decode cX1_setIsr 6 = .ok (.iload_n 2, 1) := by decide +kernel
theorem dX1_setIsr_7 : decode cX1_setIsr 7 = .ok (.putfield 54, 3) := by decide +kernel
theorem dX1_setIsr_10 : decode cX1_setIsr 10 = .ok (.return_, 1) := by decide +kernel
theorem dX1_setOsr_0 : decode cX1_setOsr 0 = .ok (.aload_n 0, 1) := by decide +kernel
theorem dX1_setOsr_1 : decode cX1_setOsr 1 = .ok (.iload_n 1, 1) := by decide +kernel
theorem dX1_setOsr_2 : decode cX1_setOsr 2 = .ok (.putfield 51, 3) := by decide +kernel
theorem dX1_setOsr_5 : decode cX1_setOsr 5 = .ok (.aload_n 0, 1) := by decide +kernel
theorem dX1_setOsr_6 : decode cX1_setOsr 6 = .ok (.iconst 0, 1) := by decide +kernel
theorem dX1_setOsr_7 : decode cX1_setOsr 7 = .ok (.putfield 57, 3) := by decide +kernel
theorem dX1_setOsr_10 : decode cX1_setOsr 10 = .ok (.return_, 1) := by decide +kernel
theorem dX1_pushIsr_0 : decode cX1_pushIsr 0 = .ok (.aload_n 0, 1) := by decide +kernel
theorem dX1_pushIsr_1 : decode cX1_pushIsr 1 = .ok (.getfield 18, 3) := by decide +kernel
theorem dX1_pushIsr_4 : decode cX1_pushIsr 4 = .ok (.aload_n 0, 1) := by decide +kernel
theorem dX1_pushIsr_5 : decode cX1_pushIsr 5 = .ok (.getfield 48, 3) := by decide +kernel
theorem dX1_pushIsr_8 : decode cX1_pushIsr 8 = .ok (.invokevirtual 93, 3) := by decide +kernel
theorem dX1_pushIsr_11 : decode cX1_pushIsr 11 = .ok (.aload_n 0, 1) := by decide +kernel
theorem dX1_pushIsr_12 : decode cX1_pushIsr 12 = .ok (.getfield 21, 3) := by decide +kernel
theorem dX1_pushIsr_15 : decode cX1_pushIsr 15 = .ok (.iconst 3, 1) := by decide +kernel
theorem dX1_pushIsr_16 : decode cX1_pushIsr 16 = .ok (.dup2, 1) := by decide +kernel
theorem dX1_pushIsr_17 : decode cX1_pushIsr 17 = .ok (.iaload, 1) := by decide +kernel
theorem dX1_pushIsr_18 : decode cX1_pushIsr 18 = .ok (.iconst 1, 1) := by decide +kernel
theorem dX1_pushIsr_19 : decode cX1_pushIsr 19 = .ok (.iadd, 1) := by decide +kernel
theorem dX1_pushIsr_20 : decode cX1_pushIsr 20 = .ok (.iastore, 1) := by decide +kernel
theorem dX1_pushIsr_21 : decode cX1_pushIsr 21 = .ok (.aload_n 0, 1) := by decide +kernel
theorem dX1_pushIsr_22 : decode cX1_pushIsr 22 = .ok (.iconst 0, 1) := by decide +kernel
theorem dX1_pushIsr_23 : decode cX1_pushIsr 23 = .ok (.iconst 0, 1) := by decide +kernel
theorem dX1_pushIsr_24 : decode cX1_pushIsr 24 = .ok (.invokevirtual 96, 3) := by decide +kernel
theorem dX1_pushIsr_27 : decode cX1_pushIsr 27 = .ok (.return_, 1) := by decide +kernel
theorem dX1_pullOsr_0 : decode cX1_pullOsr 0 = .ok (.aload_n 0, 1) := by decide +kernel
theorem dX1_pullOsr_1 : decode cX1_pullOsr 1 = .ok (.aload_n 0, 1) := by decide +kernel
theorem dX1_pullOsr_2 : decode cX1_pullOsr 2 = .ok (.getfield 12, 3) := by decide +kernel
theorem dX1_pullOsr_5 : decode cX1_pullOsr 5 = .ok (.invokevirtual 100, 3) := by decide +kernel
theorem dX1_pullOsr_8 : decode cX1_pullOsr 8 = .ok (.invokevirtual 103, 3) := by decide +kernel
theorem dX1_pullOsr_11 : decode cX1_pullOsr 11 = .ok (.aload_n 0, 1) := by decide +kernel
theorem dX1_pullOsr_12 : decode cX1_pullOsr 12 = .ok (.getfield 21, 3) := by decide +kernel
theorem dX1_pullOsr_15 : decode cX1_pullOsr 15 = .ok (.iconst 4, 1) := by decide +kernel
theorem dX1_pullOsr_16 : decode cX1_pullOsr 16 = .ok (.dup2, 1) := by decide +kernel
theorem dX1_pullOsr_17 : decode cX1_pullOsr 17 = .ok (.iaload, 1) := by decide +kernel
theorem dX1_pullOsr_18 : decode cX1_pullOsr 18 = .ok (.iconst 1, 1) := by decide +kernel
theorem dX1_pullOsr_19 : decode cX1_pullOsr 19 = .ok (.iadd, 1) := by decide +kernel
theorem dX1_pullOsr_20 : decode cX1_pullOsr 20 = .ok (.iastore, 1) := by decide +kernel
theorem dX1_pullOsr_21 : decode cX1_pullOsr 21 = .ok (.return_, 1) := by decide +kernel
theorem dX2_init_0 : decode cX2_init 0 = .ok (.aload_n 0, 1) := by decide +kernel
theorem dX2_init_1 : decode cX2_init 1 = .ok (.invokespecial 3, 3) := by decide +kernel
theorem dX2_init_4 : decode cX2_init 4 = .ok (.aload_n 0, 1) := by decide +kernel
theorem dX2_init_5 : decode cX2_init 5 = .ok (.getstatic 9, 3) := by decide +kernel
theorem dX2_init_8 : decode cX2_init 8 = .ok (.putfield 15, 3) := by decide +kernel
theorem dX2_init_11 : decode cX2_init 11 = .ok (.aload_n 0, 1) := by decide +kernel
theorem dX2_init_12 : decode cX2_init 12 = .ok (.iconst (-1), 1) := by decide +kernel
theorem dX2_init_13 : decode cX2_init 13 = .ok (.putfield 20, 3) := by decide +kernel
theorem dX2_init_16 : decode cX2_init 16 = .ok (.aload_n 0, 1) := by decide +kernel
theorem dX2_init_17 : decode cX2_init 17 = .ok (.getstatic 9, 3) := by decide +kernel
theorem dX2_init_20 : decode cX2_init 20 = .ok (.putfield 24, 3) := by decide +kernel
theorem dX2_init_23 : decode cX2_init 23 = .ok (.aload_n 0, 1) := by decide +kernel
theorem dX2_init_24 : decode cX2_init 24 = .ok (.getstatic 9, 3) := by decide +kernel
theorem dX2_init_27 : decode cX2_init 27 = .ok (.putfield 27, 3) := by decide +kernel
theorem dX2_init_30 : decode cX2_init 30 = .ok (.aload_n 0, 1) := by decide +kernel
theorem dX2_init_31 : decode cX2_init 31 = .ok (.getstatic 9, 3) := by decide +kernel
theorem dX2_init_34 : decode cX2_init 34 = .ok (.putfield 30, 3) := by decide +kernel
theorem dX2_init_37 : decode cX2_init 37 = .ok (.aload_n 0, 1) := by decide +kernel
theorem dX2_init_38 : decode cX2_init 38 = .ok (.iconst (-1), 1) := by decide +kernel
theorem dX2_init_39 : decode cX2_init 39 = .ok (.putfield 33, 3) := by decide +kernel
theorem dX2_init_42 : decode cX2_init 42 = .ok (.aload_n 0, 1) := by decide +kernel
theorem dX2_init_43 : decode cX2_init 43 = .ok (.iconst (-1), 1) := by decide +kernel
theorem dX2_init_44 : decode cX2_init 44 = .ok (.putfield 36, 3) := by decide +kernel
theorem dX2_init_47 : decode cX2_init 47 = .ok (.aload_n 0, 1) := by decide +kernel
theorem dX2_init_48 : decode cX2_init 48 = .ok (.iconst 0, 1) := by decide +kernel
theorem dX2_init_49 : decode cX2_init 49 = .ok (.putfield 39, 3) := by decide +kernel
theorem dX2_init_52 : decode cX2_init 52 = .ok (.return_, 1) := by decide +kernel
theorem dX2_clearTo_0 : decode cX2_clearTo 0 = .ok (.aload_n 0, 1) := by decide +kernel
theorem dX2_clearTo_1 : decode cX2_clearTo 1 = .ok (.aload_n 1, 1) := by decide +kernel
theorem dX2_clearTo_2 : decode cX2_clearTo 2 = .ok (.putfield 15, 3) := by decide +kernel
theorem dX2_clearTo_5 : decode cX2_clearTo 5 = .ok (.aload_n 0, 1) := by decide +kernel
theorem dX2_clearTo_6 : decode cX2_clearTo 6 = .ok (.iconst (-1), 1) := by decide +kernel
theorem dX2_clearTo_7 : decode cX2_clearTo 7 = .ok (.putfield 20, 3) := by decide +kernel
theorem dX2_clearTo_10 : decode cX2_clearTo 10 = .ok (.aload_n 0, 1) := by decide +kernel
theorem dX2_clearTo_11 : decode cX2_clearTo 11 = .ok (.getstatic 9, 3) := by decide +kernel
theorem dX2_clearTo_14 : decode cX2_clearTo 14 = .ok (.putfield 24, 3) := by decide +kernel
theorem dX2_clearTo_17 : decode cX2_clearTo 17 = .ok (.aload_n 0, 1) := by decide +kernel
theorem dX2_clearTo_18 : decode cX2_clearTo 18 = .ok (.getstatic 9, 3) := by decide +kernel
theorem dX2_clearTo_21 : decode cX2_clearTo 21 = .ok (.putfield 27, 3) := by decide +kernel
theorem dX2_clearTo_24 : decode cX2_clearTo 24 = .ok (.aload_n 0, 1) := by decide +kernel
theorem dX2_clearTo_25 : decode cX2_clearTo 25 = .ok (.getstatic 9, 3) := by decide +kernel
theorem dX2_clearTo_28 : decode cX2_clearTo 28 = .ok (.putfield 30, 3) := by decide +kernel
theorem dX2_clearTo_31 : decode cX2_clearTo 31 = .ok (.aload_n 0, 1) := by decide +kernel
theorem dX2_clearTo_32 : decode cX2_clearTo 32 = .ok (.iconst (-1), 1) := by decide +kernel
theorem dX2_clearTo_33 : decode cX2_clearTo 33 = .ok (.putfield 33, 3) := by decide +kernel
theorem dX2_clearTo_36 : decode cX2_clearTo 36 = .ok (.aload_n 0, 1) := by decide +kernel
theorem dX2_clearTo_37 : decode cX2_clearTo 37 = .ok (.iconst (-1), 1) := by decide +kernel
theorem dX2_clearTo_38 : decode cX2_clearTo 38 = .ok (.putfield 36, 3) := by decide +kernel
theorem dX2_clearTo_41 : decode cX2_clearTo 41 = .ok (.aload_n 0, 1) := by decide +kernel
theorem dX2_clearTo_42 : decode cX2_clearTo 42 = .ok (.iconst 0, 1) := by decide +kernel
theorem dX2_clearTo_43 : decode cX2_clearTo 43 = .ok (.putfield 39, 3) := by decide +kernel
theorem dX2_clearTo_46 : decode cX2_clearTo 46 = .ok (.return_, 1) := by decide +kernel
theorem dX2_usesPort_0 : decode cX2_usesPort 0 = .ok (.aload_n 0, 1) := by decide +kernel
theorem dX2_usesPort_1 : decode cX2_usesPort 1 = .ok (.getfield 15, 3) := by decide +kernel
theorem dX2_usesPort_4 : decode cX2_usesPort 4 = .ok (.getstatic 42, 3) := by decide +kernel
theorem dX2_usesPort_7 : decode cX2_usesPort 7 = .ok (.if_acmp .eq 13, 3) := by decide +kernel
theorem dX2_usesPort_10 : decode cX2_usesPort 10 = .ok (.aload_n 0, 1) := by decide +kernel
theorem dX2_usesPort_11 : decode cX2_usesPort 11 = .ok (.getfield 15, 3) := by decide +kernel
theorem dX2_usesPort_14 : decode cX2_usesPort 14 = .ok (.getstatic 45, 3) := by decide +kernel
theorem dX2_usesPort_17 : decode cX2_usesPort 17 = .ok (.if_acmp .ne 7, 3) := by decide +kernel
theorem dX2_usesPort_20 : decode cX2_usesPort 20 = .ok (.iconst 1, 1) := by decide +kernel
theorem dX2_usesPort_21 : decode cX2_usesPort 21 = .ok (.goto 4, 3) := by decide +kernel
theorem dX2_usesPort_24 : decode cX2_usesPort 24 = .ok (.iconst 0, 1) := by decide +kernel
theorem dX2_usesPort_25 : decode cX2_usesPort 25 = .ok (.ireturn, 1) := by decide +kernel
theorem dX2_appendTo_0 : decode cX2_appendTo 0 = .ok (.aload_n 1, 1) := by decide +kernel
theorem dX2_appendTo_1 : decode cX2_appendTo 1 = .ok (.aload_n 0, 1) := by decide +kernel
theorem dX2_appendTo_2 : decode cX2_appendTo 2 = .ok (.getfield 15, 3) := by decide +kernel
theorem dX2_appendTo_5 : decode cX2_appendTo 5 = .ok (.getfield 48, 3) := by decide +kernel
theorem dX2_appendTo_8 : decode cX2_appendTo 8 = .ok (.invokevirtual 52, 3) := by decide +kernel
theorem dX2_appendTo_11 : decode cX2_appendTo 11 = .ok (.pop, 1) := by decide +kernel
theorem dX2_appendTo_12 : decode cX2_appendTo 12 = .ok (.aload_n 1, 1) := by decide +kernel
theorem dX2_appendTo_13 : decode cX2_appendTo 13 = .ok (.aload_n 0, 1) := by decide +kernel
theorem dX2_appendTo_14 : decode cX2_appendTo 14 = .ok (.getfield 20, 3) := by decide +kernel
theorem dX2_appendTo_17 : decode cX2_appendTo 17 = .ok (.invokestatic 58, 3) := by decide +kernel
theorem dX2_appendTo_20 : decode cX2_appendTo 20 = .ok (.aload_n 1, 1) := by decide +kernel
theorem dX2_appendTo_21 : decode cX2_appendTo 21 = .ok (.aload_n 0, 1) := by decide +kernel
theorem dX2_appendTo_22 : decode cX2_appendTo 22 = .ok (.getfield 24, 3) := by decide +kernel
theorem dX2_appendTo_25 : decode cX2_appendTo 25 = .ok (.invokestatic 62, 3) := by decide +kernel
theorem dX2_appendTo_28 : decode cX2_appendTo 28 = .ok (.aload_n 1, 1) := by decide +kernel
theorem dX2_appendTo_29 : decode cX2_appendTo 29 = .ok (.aload_n 0, 1) := by decide +kernel
theorem dX2_appendTo_30 : decode cX2_appendTo 30 = .ok (.getfield 27, 3) := by decide +kernel
theorem dX2_appendTo_33 : decode cX2_appendTo 33 = .ok (.invokestatic 62, 3) := by decide +kernel
theorem dX2_appendTo_36 : decode cX2_appendTo 36 = .ok (.aload_n 1, 1) := by decide +kernel
theorem dX2_appendTo_37 : decode cX2_appendTo 37 = .ok (.aload_n 0, 1) := by decide +kernel
theorem dX2_appendTo_38 : decode cX2_appendTo 38 = .ok (.getfield 30, 3) := by decide +kernel
theorem dX2_appendTo_41 : decode cX2_appendTo 41 = .ok (.invokestatic 62, 3) := by decide +kernel
theorem dX2_appendTo_44 : decode cX2_appendTo 44 = .ok (.aload_n 1, 1) := by decide +kernel
theorem dX2_appendTo_45 : decode cX2_appendTo 45 = .ok (.aload_n 0, 1) := by decide +kernel
theorem dX2_appendTo_46 : decode cX2_appendTo 46 = .ok (.getfield 33, 3) := by decide +kernel
theorem dX2_appendTo_49 : decode cX2_appendTo 49 = .ok (.invokestatic 58, 3) := by decide +kernel
theorem dX2_appendTo_52 : decode cX2_appendTo 52 = .ok (.aload_n 0, 1) := by decide +kernel
theorem dX2_appendTo_53 : decode cX2_appendTo 53 = .ok (.getfield 36, 3) := by decide +kernel
theorem dX2_appendTo_56 : decode cX2_appendTo 56 = .ok (.iconst (-1), 1) := by decide +kernel
theorem dX2_appendTo_57 : decode cX2_appendTo 57 = .ok (.if_icmp .eq 18, 3) := by decide +kernel
theorem dX2_appendTo_60 : decode cX2_appendTo 60 = .ok (.aload_n 1, 1) := by decide +kernel
theorem dX2_appendTo_61 : decode cX2_appendTo 61 = .ok (.getstatic 66, 3) := by decide +kernel
theorem dX2_appendTo_64 : decode cX2_appendTo 64 = .ok (.invokestatic 62, 3) := by decide +kernel
theorem dX2_appendTo_67 : decode cX2_appendTo 67 = .ok (.aload_n 1, 1) := by decide +kernel
theorem dX2_appendTo_68 : decode cX2_appendTo 68 = .ok (.aload_n 0, 1) := by decide +kernel
theorem dX2_appendTo_69 : decode cX2_appendTo 69 = .ok (.getfield 36, 3) := by decide +kernel
theorem dX2_appendTo_72 : decode cX2_appendTo 72 = .ok (.invokestatic 58, 3) := by decide +kernel
theorem dX2_appendTo_75 : decode cX2_appendTo 75 = .ok (.aload_n 0, 1) := by decide +kernel
theorem dX2_appendTo_76 : decode cX2_appendTo 76 = .ok (.getfield 39, 3) := by decide +kernel
theorem dX2_appendTo_79 : decode cX2_appendTo 79 = .ok (.ifCond .eq 18, 3) := by decide +kernel
theorem dX2_appendTo_82 : decode cX2_appendTo 82 = .ok (.aload_n 1, 1) := by decide +kernel
theorem dX2_appendTo_83 : decode cX2_appendTo 83 = .ok (.getstatic 69, 3) := by decide +kernel
theorem dX2_appendTo_86 : decode cX2_appendTo 86 = .ok (.invokestatic 62, 3) := by decide +kernel
theorem dX2_appendTo_89 : decode cX2_appendTo 89 = .ok (.aload_n 1, 1) := by decide +kernel
theorem dX2_appendTo_90 : decode cX2_appendTo 90 = .ok (.aload_n 0, 1) := by decide +kernel
theorem dX2_appendTo_91 : decode cX2_appendTo 91 = .ok (.getfield 39, 3) := by decide +kernel
theorem dX2_appendTo_94 : decode cX2_appendTo 94 = .ok (.invokestatic 58, 3) := by decide +kernel
theorem dX2_appendTo_97 : decode cX2_appendTo 97 = .ok (.return_, 1) := by decide +kernel
theorem dX2_appendWord_0 : decode cX2_appendWord 0 = .ok (.aload_n 1, 1) := by decide +kernel
theorem dX2_appendWord_1 : decode cX2_appendWord 1 = .ok (.getstatic 9, 3) := by decide +kernel
theorem dX2_appendWord_4 : decode cX2_appendWord 4 = .ok (.if_acmp .eq 19, 3) := by decide +kernel
theorem dX2_appendWord_7 : decode cX2_appendWord 7 = .ok (.aload_n 0, 1) := by decide +kernel
theorem dX2_appendWord_8 : decode cX2_appendWord 8 = .ok (.bipush 32, 2) := by decide +kernel
theorem dX2_appendWord_10 : decode cX2_appendWord 10 = .ok (.invokevirtual 72, 3) := by decide +kernel
theorem dX2_appendWord_13 : decode cX2_appendWord 13 = .ok (.pop, 1) := by decide +kernel
theorem dX2_appendWord_14 : decode cX2_appendWord 14 = .ok (.aload_n 0, 1) := by decide +kernel
theorem dX2_appendWord_15 : decode cX2_appendWord 15 = .ok (.aload_n 1, 1) := by decide +kernel
theorem dX2_appendWord_16 : decode cX2_appendWord 16 = .ok (.getfield 48, 3) := by decide +kernel
theorem dX2_appendWord_19 : decode cX2_appendWord 19 = .ok (.invokevirtual 52, 3) := by decide +kernel
theorem dX2_appendWord_22 : decode cX2_appendWord 22 = .ok (.pop, 1) := by decide +kernel
theorem dX2_appendWord_23 : decode cX2_appendWord 23 = .ok (.return_, 1) := by decide +kernel
theorem dX2_appendNumber_0 : decode cX2_appendNumber 0 = .ok (.iload_n 1, 1) := by decide +kernel
theorem dX2_appendNumber_1 : decode cX2_appendNumber 1 = .ok (.iconst (-1), 1) := by decide +kernel
theorem dX2_appendNumber_2 : decode cX2_appendNumber 2 = .ok (.if_icmp .eq 16, 3) := by decide +kernel
theorem dX2_appendNumber_5 : decode cX2_appendNumber 5 = .ok (.aload_n 0, 1) := by decide +kernel
theorem dX2_appendNumber_6 : decode cX2_appendNumber 6 = .ok (.bipush 32, 2) := by decide +kernel
theorem dX2_appendNumber_8 : decode cX2_appendNumber 8 = .ok (.invokevirtual 72, 3) := by decide +kernel
theorem dX2_appendNumber_11 : decode cX2_appendNumber 11 = .ok (.pop, 1) := by decide +kernel
theorem dX2_appendNumber_12 : decode cX2_appendNumber 12 = .ok (.aload_n 0, 1) := by decide +kernel
theorem dX2_appendNumber_13 : decode cX2_appendNumber 13 = .ok (.iload_n 1, 1) := by decide +kernel
theorem dX2_appendNumber_14 : decode cX2_appendNumber 14 = .ok (.invokevirtual 75, 3) := by decide +kernel
theorem dX2_appendNumber_17 : decode cX2_appendNumber 17 = .ok (.pop, 1) := by decide +kernel
theorem dX2_appendNumber_18 : decode cX2_appendNumber 18 = .ok (.return_, 1) := by decide +kernel
theorem dX3_init_0 : decode cX3_init 0 = .ok (.aload_n 0, 1) := by decide +kernel
theorem dX3_init_1 : decode cX3_init 1 = .ok (.invokespecial 3, 3) := by decide +kernel
theorem dX3_init_4 : decode cX3_init 4 = .ok (.aload_n 0, 1) := by decide +kernel
theorem dX3_init_5 : decode cX3_init 5 = .ok (.bipush 16, 2) := by decide +kernel
theorem dX3_init_7 : decode cX3_init 7 = .ok (.newarray .int, 2) := by decide +kernel
theorem dX3_init_9 : decode cX3_init 9 = .ok (.putfield 9, 3) := by decide +kernel
theorem dX3_init_12 : decode cX3_init 12 = .ok (.aload_n 0, 1) := by decide +kernel
theorem dX3_init_13 : decode cX3_init 13 = .ok (.iconst 4, 1) := by decide +kernel
theorem dX3_init_14 : decode cX3_init 14 = .ok (.anewarray 15, 3) := by decide +kernel
theorem dX3_init_17 : decode cX3_init 17 = .ok (.putfield 17, 3) := by decide +kernel
theorem dX3_init_20 : decode cX3_init 20 = .ok (.aload_n 0, 1) := by decide +kernel
theorem dX3_init_21 : decode cX3_init 21 = .ok (.bipush 32, 2) := by decide +kernel
theorem dX3_init_23 : decode cX3_init 23 = .ok (.newarray .int, 2) := by decide +kernel
theorem dX3_init_25 : decode cX3_init 25 = .ok (.putfield 21, 3) := by decide +kernel
theorem dX3_init_28 : decode cX3_init 28 = .ok (.aload_n 0, 1) := by decide +kernel
theorem dX3_init_29 : decode cX3_init 29 = .ok (.bipush 64, 2) := by decide +kernel
theorem dX3_init_31 : decode cX3_init 31 = .ok (.newarray .int, 2) := by decide +kernel
theorem dX3_init_33 : decode cX3_init 33 = .ok (.putfield 24, 3) := by decide +kernel
theorem dX3_init_36 : decode cX3_init 36 = .ok (.aload_n 0, 1) := by decide +kernel
theorem dX3_init_37 : decode cX3_init 37 = .ok (.bipush 16, 2) := by decide +kernel
theorem dX3_init_39 : decode cX3_init 39 = .ok (.newarray .int, 2) := by decide +kernel
theorem dX3_init_41 : decode cX3_init 41 = .ok (.putfield 27, 3) := by decide +kernel
theorem dX3_init_44 : decode cX3_init 44 = .ok (.aload_n 0, 1) := by decide +kernel
theorem dX3_init_45 : decode cX3_init 45 = .ok (.bipush 16, 2) := by decide +kernel
theorem dX3_init_47 : decode cX3_init 47 = .ok (.newarray .int, 2) := by decide +kernel
theorem dX3_init_49 : decode cX3_init 49 = .ok (.putfield 30, 3) := by decide +kernel
theorem dX3_init_52 : decode cX3_init 52 = .ok (.iconst 0, 1) := by decide +kernel
theorem dX3_init_53 : decode cX3_init 53 = .ok (.istore_n 1, 1) := by decide +kernel
theorem dX3_init_54 : decode cX3_init 54 = .ok (.iload_n 1, 1) := by decide +kernel
theorem dX3_init_55 : decode cX3_init 55 = .ok (.iconst 4, 1) := by decide +kernel
theorem dX3_init_56 : decode cX3_init 56 = .ok (.if_icmp .ge 22, 3) := by decide +kernel
theorem dX3_init_59 : decode cX3_init 59 = .ok (.aload_n 0, 1) := by decide +kernel
theorem dX3_init_60 : decode cX3_init 60 = .ok (.getfield 17, 3) := by decide +kernel
theorem dX3_init_63 : decode cX3_init 63 = .ok (.iload_n 1, 1) := by decide +kernel
theorem dX3_init_64 : decode cX3_init 64 = .ok (.new 15, 3) := by decide +kernel
theorem dX3_init_67 : decode cX3_init 67 = .ok (.dup, 1) := by decide +kernel
theorem dX3_init_68 : decode cX3_init 68 = .ok (.invokespecial 33, 3) := by decide +kernel
theorem dX3_init_71 : decode cX3_init 71 = .ok (.aastore, 1) := by decide +kernel
theorem dX3_init_72 : decode cX3_init 72 = .ok (.iinc 1 1, 3) := by decide +kernel
theorem dX3_init_75 : decode cX3_init 75 = .ok (.goto (-21), 3) := by decide +kernel
theorem dX3_init_78 : decode cX3_init 78 = .ok (.return_, 1) := by decide +kernel
theorem dX3_begin_0 : decode cX3_begin 0 = .ok (.aload_n 0, 1) := by decide +kernel
theorem dX3_begin_1 : decode cX3_begin 1 = .ok (.iconst 0, 1) := by decide +kernel
theorem dX3_begin_2 : decode cX3_begin 2 = .ok (.putfield 34, 3) := by decide +kernel
theorem dX3_begin_5 : decode cX3_begin 5 = .ok (.aload_n 0, 1) := by decide +kernel
theorem dX3_begin_6 : decode cX3_begin 6 = .ok (.iconst 0, 1) := by decide +kernel
theorem dX3_begin_7 : decode cX3_begin 7 = .ok (.putfield 38, 3) := by decide +kernel
theorem dX3_begin_10 : decode cX3_begin 10 = .ok (.aload_n 0, 1) := by decide +kernel
theorem dX3_begin_11 : decode cX3_begin 11 = .ok (.iconst 0, 1) := by decide +kernel
theorem dX3_begin_12 : decode cX3_begin 12 = .ok (.putfield 41, 3) := by decide +kernel
theorem dX3_begin_15 : decode cX3_begin 15 = .ok (.aload_n 0, 1) := by decide +kernel
theorem dX3_begin_16 : decode cX3_begin 16 = .ok (.aload_n 1, 1) := by decide +kernel
theorem dX3_begin_17 : decode cX3_begin 17 = .ok (.getfield 44, 3) := by decide +kernel
theorem dX3_begin_20 : decode cX3_begin 20 = .ok (.putfield 49, 3) := by decide +kernel
theorem dX3_begin_23 : decode cX3_begin 23 = .ok (.aload_n 0, 1) := by decide +kernel
theorem dX3_begin_24 : decode cX3_begin 24 = .ok (.iconst 0, 1) := by decide +kernel
theorem dX3_begin_25 : decode cX3_begin 25 = .ok (.putfield 50, 3) := by decide +kernel
theorem dX3_begin_28 : decode cX3_begin 28 = .ok (.aload_n 0, 1) := by decide +kernel
theorem dX3_begin_29 : decode cX3_begin 29 = .ok (.iconst (-1), 1) := by decide +kernel
theorem dX3_begin_30 : decode cX3_begin 30 = .ok (.putfield 53, 3) := by decide +kernel
theorem dX3_begin_33 : decode cX3_begin 33 = .ok (.iconst 0, 1) := by decide +kernel
theorem dX3_begin_34 : decode cX3_begin 34 = .ok (.istore_n 2, 1) := by decide +kernel
theorem dX3_begin_35 : decode cX3_begin 35 = .ok (.iload_n 2, 1) := by decide +kernel
theorem dX3_begin_36 : decode cX3_begin 36 = .ok (.bipush 16, 2) := by decide +kernel
theorem dX3_begin_38 : decode cX3_begin 38 = .ok (.if_icmp .ge 16, 3) := by decide +kernel
theorem dX3_begin_41 : decode cX3_begin 41 = .ok (.aload_n 0, 1) := by decide +kernel
theorem dX3_begin_42 : decode cX3_begin 42 = .ok (.getfield 9, 3) := by decide +kernel
theorem dX3_begin_45 : decode cX3_begin 45 = .ok (.iload_n 2, 1) := by decide +kernel
theorem dX3_begin_46 : decode cX3_begin 46 = .ok (.iconst 0, 1) := by decide +kernel
theorem dX3_begin_47 : decode cX3_begin 47 = .ok (.iastore, 1) := by decide +kernel
theorem dX3_begin_48 : decode cX3_begin 48 = .ok (.iinc 2 1, 3) := by decide +kernel
theorem dX3_begin_51 : decode cX3_begin 51 = .ok (.goto (-16), 3) := by decide +kernel
theorem dX3_begin_54 : decode cX3_begin 54 = .ok (.iconst 0, 1) := by decide +kernel
theorem dX3_begin_55 : decode cX3_begin 55 = .ok (.istore_n 2, 1) := by decide +kernel
theorem dX3_begin_56 : decode cX3_begin 56 = .ok (.iload_n 2, 1) := by decide +kernel
theorem dX3_begin_57 : decode cX3_begin 57 = .ok (.iconst 4, 1) := by decide +kernel
theorem dX3_begin_58 : decode cX3_begin 58 = .ok (.if_icmp .ge 24, 3) := by decide +kernel
theorem dX3_begin_61 : decode cX3_begin 61 = .ok (.aload_n 0, 1) := by decide +kernel
theorem dX3_begin_62 : decode cX3_begin 62 = .ok (.getfield 17, 3) := by decide +kernel
theorem dX3_begin_65 : decode cX3_begin 65 = .ok (.iload_n 2, 1) := by decide +kernel
theorem dX3_begin_66 : decode cX3_begin 66 = .ok (.aaload, 1) := by decide +kernel
theorem dX3_begin_67 : decode cX3_begin 67 = .ok (.aload_n 1, 1) := by decide +kernel
theorem dX3_begin_68 : decode cX3_begin 68 = .ok (.getfield 56, 3) := by decide +kernel
theorem dX3_begin_71 : decode cX3_begin 71 = .ok (.iload_n 2, 1) := by decide +kernel
theorem dX3_begin_72 : decode cX3_begin 72 = .ok (.aaload, 1) := by decide +kernel
theorem dX3_begin_73 : decode cX3_begin 73 = .ok (.invokevirtual 60, 3) := by decide +kernel
theorem dX3_begin_76 : decode cX3_begin 76 = .ok (.iinc 2 1, 3) := by decide +kernel
theorem dX3_begin_79 : decode cX3_begin 79 = .ok (.goto (-23), 3) := by decide +kernel
theorem dX3_begin_82 : decode cX3_begin 82 = .ok (.aload_n 0, 1) := by decide +kernel
theorem dX3_begin_83 : decode cX3_begin 83 = .ok (.iconst 0, 1) := by decide +kernel
theorem dX3_begin_84 : decode cX3_begin 84 = .ok (.putfield 64, 3) := by decide +kernel
theorem dX3_begin_87 : decode cX3_begin 87 = .ok (.aload_n 0, 1) := by decide +kernel
theorem dX3_begin_88 : decode cX3_begin 88 = .ok (.aload_n 0, 1) := by decide +kernel
theorem dX3_begin_89 : decode cX3_begin 89 = .ok (.invokevirtual 67, 3) := by decide +kernel
theorem dX3_begin_92 : decode cX3_begin 92 = .ok (.putfield 71, 3) := by decide +kernel
theorem dX3_begin_95 : decode cX3_begin 95 = .ok (.iconst 0, 1) := by decide +kernel
theorem dX3_begin_96 : decode cX3_begin 96 = .ok (.istore_n 2, 1) := by decide +kernel
theorem dX3_begin_97 : decode cX3_begin 97 = .ok (.iload_n 2, 1) := by decide +kernel
theorem dX3_begin_98 : decode cX3_begin 98 = .ok (.bipush 16, 2) := by decide +kernel
theorem dX3_begin_100 : decode cX3_begin 100 = .ok (.if_icmp .ge 23, 3) := by decide +kernel
theorem dX3_begin_103 : decode cX3_begin 103 = .ok (.aload_n 0, 1) := by decide +kernel
theorem dX3_begin_104 : decode cX3_begin 104 = .ok (.getfield 27, 3) := by decide +kernel
theorem dX3_begin_107 : decode cX3_begin 107 = .ok (.iload_n 2, 1) := by decide +kernel
theorem dX3_begin_108 : decode cX3_begin 108 = .ok (.iconst 0, 1) := by decide +kernel
theorem dX3_begin_109 : decode cX3_begin 109 = .ok (.iastore, 1) := by decide +kernel
theorem dX3_begin_110 : decode cX3_begin 110 = .ok (.aload_n 0, 1) := by decide +kernel
theorem dX3_begin_111 : decode cX3_begin 111 = .ok (.getfield 30, 3) := by decide +kernel
theorem dX3_begin_114 : decode cX3_begin 114 = .ok (.iload_n 2, 1) := by decide +kernel
theorem dX3_begin_115 : decode cX3_begin 115 = .ok (.iconst 0, 1) := by decide +kernel
theorem dX3_begin_116 : decode cX3_begin 116 = .ok (.iastore, 1) := by decide +kernel
theorem dX3_begin_117 : decode cX3_begin 117 = .ok (.iinc 2 1, 3) := by decide +kernel
theorem dX3_begin_120 : decode cX3_begin 120 = .ok (.goto (-23), 3) := by decide +kernel
theorem dX3_begin_123 : decode cX3_begin 123 = .ok (.return_, 1) := by decide +kernel
theorem dX3_copyFrom_0 : decode cX3_copyFrom 0 = .ok (.aload_n 0, 1) := by decide +kernel
theorem dX3_copyFrom_1 : decode cX3_copyFrom 1 = .ok (.aload_n 1, 1) := by decide +kernel
theorem dX3_copyFrom_2 : decode cX3_copyFrom 2 = .ok (.getfield 34, 3) := by decide +kernel
theorem dX3_copyFrom_5 : decode cX3_copyFrom 5 = .ok (.putfield 34, 3) := by decide +kernel
theorem dX3_copyFrom_8 : decode cX3_copyFrom 8 = .ok (.aload_n 0, 1) := by decide +kernel
theorem dX3_copyFrom_9 : decode cX3_copyFrom 9 = .ok (.aload_n 1, 1) := by decide +kernel
theorem dX3_copyFrom_10 : decode cX3_copyFrom 10 = .ok (.getfield 38, 3) := by decide +kernel
theorem dX3_copyFrom_13 : decode cX3_copyFrom 13 = .ok (.putfield 38, 3) := by decide +kernel
theorem dX3_copyFrom_16 : decode cX3_copyFrom 16 = .ok (.aload_n 0, 1) := by decide +kernel
theorem dX3_copyFrom_17 : decode cX3_copyFrom 17 = .ok (.aload_n 1, 1) := by decide +kernel
theorem dX3_copyFrom_18 : decode cX3_copyFrom 18 = .ok (.getfield 41, 3) := by decide +kernel
theorem dX3_copyFrom_21 : decode cX3_copyFrom 21 = .ok (.putfield 41, 3) := by decide +kernel
theorem dX3_copyFrom_24 : decode cX3_copyFrom 24 = .ok (.aload_n 0, 1) := by decide +kernel
theorem dX3_copyFrom_25 : decode cX3_copyFrom 25 = .ok (.aload_n 1, 1) := by decide +kernel
theorem dX3_copyFrom_26 : decode cX3_copyFrom 26 = .ok (.getfield 49, 3) := by decide +kernel
theorem dX3_copyFrom_29 : decode cX3_copyFrom 29 = .ok (.putfield 49, 3) := by decide +kernel
theorem dX3_copyFrom_32 : decode cX3_copyFrom 32 = .ok (.aload_n 0, 1) := by decide +kernel
theorem dX3_copyFrom_33 : decode cX3_copyFrom 33 = .ok (.aload_n 1, 1) := by decide +kernel
theorem dX3_copyFrom_34 : decode cX3_copyFrom 34 = .ok (.getfield 50, 3) := by decide +kernel
theorem dX3_copyFrom_37 : decode cX3_copyFrom 37 = .ok (.putfield 50, 3) := by decide +kernel
theorem dX3_copyFrom_40 : decode cX3_copyFrom 40 = .ok (.aload_n 0, 1) := by decide +kernel
theorem dX3_copyFrom_41 : decode cX3_copyFrom 41 = .ok (.aload_n 1, 1) := by decide +kernel
theorem dX3_copyFrom_42 : decode cX3_copyFrom 42 = .ok (.getfield 53, 3) := by decide +kernel
theorem dX3_copyFrom_45 : decode cX3_copyFrom 45 = .ok (.putfield 53, 3) := by decide +kernel
theorem dX3_copyFrom_48 : decode cX3_copyFrom 48 = .ok (.aload_n 1, 1) := by decide +kernel
theorem dX3_copyFrom_49 : decode cX3_copyFrom 49 = .ok (.getfield 9, 3) := by decide +kernel
theorem dX3_copyFrom_52 : decode cX3_copyFrom 52 = .ok (.iconst 0, 1) := by decide +kernel
theorem dX3_copyFrom_53 : decode cX3_copyFrom 53 = .ok (.aload_n 0, 1) := by decide +kernel
theorem dX3_copyFrom_54 : decode cX3_copyFrom 54 = .ok (.getfield 9, 3) := by decide +kernel
theorem dX3_copyFrom_57 : decode cX3_copyFrom 57 = .ok (.iconst 0, 1) := by decide +kernel
theorem dX3_copyFrom_58 : decode cX3_copyFrom 58 = .ok (.bipush 16, 2) := by decide +kernel
theorem dX3_copyFrom_60 : decode cX3_copyFrom 60 = .ok (.invokestatic 74, 3) := by decide +kernel
theorem dX3_copyFrom_63 : decode cX3_copyFrom 63 = .ok (.iconst 0, 1) := by decide +kernel
theorem dX3_copyFrom_64 : decode cX3_copyFrom 64 = .ok (.istore_n 2, 1) := by decide +kernel
theorem dX3_copyFrom_65 : decode cX3_copyFrom 65 = .ok (.iload_n 2, 1) := by decide +kernel
theorem dX3_copyFrom_66 : decode cX3_copyFrom 66 = .ok (.iconst 4, 1) := by decide +kernel
theorem dX3_copyFrom_67 : decode cX3_copyFrom 67 = .ok (.if_icmp .ge 24, 3) := by decide +kernel
theorem dX3_copyFrom_70 : decode cX3_copyFrom 70 = .ok (.aload_n 0, 1) := by decide +kernel
theorem dX3_copyFrom_71 : decode cX3_copyFrom 71 = .ok (.getfield 17, 3) := by decide +kernel
theorem dX3_copyFrom_74 : decode cX3_copyFrom 74 = .ok (.iload_n 2, 1) := by decide +kernel
theorem dX3_copyFrom_75 : decode cX3_copyFrom 75 = .ok (.aaload, 1) := by decide +kernel
theorem dX3_copyFrom_76 : decode cX3_copyFrom 76 = .ok (.aload_n 1, 1) := by decide +kernel
theorem dX3_copyFrom_77 : decode cX3_copyFrom 77 = .ok (.getfield 17, 3) := by decide +kernel
theorem dX3_copyFrom_80 : decode cX3_copyFrom 80 = .ok (.iload_n 2, 1) := by decide +kernel
theorem dX3_copyFrom_81 : decode cX3_copyFrom 81 = .ok (.aaload, 1) := by decide +kernel
theorem dX3_copyFrom_82 : decode cX3_copyFrom 82 = .ok (.invokevirtual 80, 3) := by decide +kernel
theorem dX3_copyFrom_85 : decode cX3_copyFrom 85 = .ok (.iinc 2 1, 3) := by decide +kernel
theorem dX3_copyFrom_88 : decode cX3_copyFrom 88 = .ok (.goto (-23), 3) := by decide +kernel
theorem dX3_copyFrom_91 : decode cX3_copyFrom 91 = .ok (.aload_n 0, 1) := by decide +kernel
theorem dX3_copyFrom_92 : decode cX3_copyFrom 92 = .ok (.aload_n 1, 1) := by decide +kernel
theorem dX3_copyFrom_93 : decode cX3_copyFrom 93 = .ok (.getfield 64, 3) := by decide +kernel
theorem dX3_copyFrom_96 : decode cX3_copyFrom 96 = .ok (.putfield 64, 3) := by decide +kernel
theorem dX3_copyFrom_99 : decode cX3_copyFrom 99 = .ok (.aload_n 1, 1) := by decide +kernel
theorem dX3_copyFrom_100 : decode cX3_copyFrom 100 = .ok (.getfield 21, 3) := by decide +kernel
theorem dX3_copyFrom_103 : decode cX3_copyFrom 103 = .ok (.iconst 0, 1) := by decide +kernel
theorem dX3_copyFrom_104 : decode cX3_copyFrom 104 = .ok (.aload_n 0, 1) := by decide +kernel
theorem dX3_copyFrom_105 : decode cX3_copyFrom 105 = .ok (.getfield 21, 3) := by decide +kernel
theorem dX3_copyFrom_108 : decode cX3_copyFrom 108 = .ok (.iconst 0, 1) := by decide +kernel
theorem dX3_copyFrom_109 : decode cX3_copyFrom 109 = .ok (.bipush 32, 2) := by decide +kernel
theorem dX3_copyFrom_111 : decode cX3_copyFrom 111 = .ok (.invokestatic 74, 3) := by decide +kernel
theorem dX3_copyFrom_114 : decode cX3_copyFrom 114 = .ok (.aload_n 0, 1) := by decide +kernel
theorem dX3_copyFrom_115 : decode cX3_copyFrom 115 = .ok (.aload_n 1, 1) := by decide +kernel
theorem dX3_copyFrom_116 : decode cX3_copyFrom 116 = .ok (.getfield 71, 3) := by decide +kernel
theorem dX3_copyFrom_119 : decode cX3_copyFrom 119 = .ok (.putfield 71, 3) := by decide +kernel
theorem dX3_copyFrom_122 : decode cX3_copyFrom 122 = .ok (.aload_n 1, 1) := by decide +kernel
theorem dX3_copyFrom_123 : decode cX3_copyFrom 123 = .ok (.getfield 24, 3) := by decide +kernel
theorem dX3_copyFrom_126 : decode cX3_copyFrom 126 = .ok (.iconst 0, 1) := by decide +kernel
theorem dX3_copyFrom_127 : decode cX3_copyFrom 127 = .ok (.aload_n 0, 1) := by decide +kernel
theorem dX3_copyFrom_128 : decode cX3_copyFrom 128 = .ok (.getfield 24, 3) := by decide +kernel
theorem dX3_copyFrom_131 : decode cX3_copyFrom 131 = .ok (.iconst 0, 1) := by decide +kernel
theorem dX3_copyFrom_132 : decode cX3_copyFrom 132 = .ok (.bipush 64, 2) := by decide +kernel
theorem dX3_copyFrom_134 : decode cX3_copyFrom 134 = .ok (.invokestatic 74, 3) := by decide +kernel
theorem dX3_copyFrom_137 : decode cX3_copyFrom 137 = .ok (.aload_n 1, 1) := by decide +kernel
theorem dX3_copyFrom_138 : decode cX3_copyFrom 138 = .ok (.getfield 27, 3) := by decide +kernel
theorem dX3_copyFrom_141 : decode cX3_copyFrom 141 = .ok (.iconst 0, 1) := by decide +kernel
theorem dX3_copyFrom_142 : decode cX3_copyFrom 142 = .ok (.aload_n 0, 1) := by decide +kernel
theorem dX3_copyFrom_143 : decode cX3_copyFrom 143 = .ok (.getfield 27, 3) := by decide +kernel
theorem dX3_copyFrom_146 : decode cX3_copyFrom 146 = .ok (.iconst 0, 1) := by decide +kernel
theorem dX3_copyFrom_147 : decode cX3_copyFrom 147 = .ok (.bipush 16, 2) := by decide +kernel
theorem dX3_copyFrom_149 : decode cX3_copyFrom 149 = .ok (.invokestatic 74, 3) := by decide +kernel
theorem dX3_copyFrom_152 : decode cX3_copyFrom 152 = .ok (.aload_n 1, 1) := by decide +kernel
theorem dX3_copyFrom_153 : decode cX3_copyFrom 153 = .ok (.getfield 30, 3) := by decide +kernel
theorem dX3_copyFrom_156 : decode cX3_copyFrom 156 = .ok (.iconst 0, 1) := by decide +kernel
theorem dX3_copyFrom_157 : decode cX3_copyFrom 157 = .ok (.aload_n 0, 1) := by decide +kernel
theorem dX3_copyFrom_158 : decode cX3_copyFrom 158 = .ok (.getfield 30, 3) := by decide +kernel
theorem dX3_copyFrom_161 : decode cX3_copyFrom 161 = .ok (.iconst 0, 1) := by decide +kernel
theorem dX3_copyFrom_162 : decode cX3_copyFrom 162 = .ok (.bipush 16, 2) := by decide +kernel
theorem dX3_copyFrom_164 : decode cX3_copyFrom 164 = .ok (.invokestatic 74, 3) := by decide +kernel
theorem dX3_copyFrom_167 : decode cX3_copyFrom 167 = .ok (.return_, 1) := by decide +kernel
theorem dX3_levels_0 : decode cX3_levels 0 = .ok (.aload_n 0, 1) := by decide +kernel
theorem dX3_levels_1 : decode cX3_levels 1 = .ok (.getfield 38, 3) := by decide +kernel
theorem dX3_levels_4 : decode cX3_levels 4 = .ok (.aload_n 0, 1) := by decide +kernel
theorem dX3_levels_5 : decode cX3_levels 5 = .ok (.getfield 41, 3) := by decide +kernel
theorem dX3_levels_8 : decode cX3_levels 8 = .ok (.iand, 1) := by decide +kernel
theorem dX3_levels_9 : decode cX3_levels 9 = .ok (.aload_n 0, 1) := by decide +kernel
theorem dX3_levels_10 : decode cX3_levels 10 = .ok (.getfield 49, 3) := by decide +kernel
theorem dX3_levels_13 : decode cX3_levels 13 = .ok (.aload_n 0, 1) := by decide +kernel
theorem dX3_levels_14 : decode cX3_levels 14 = .ok (.getfield 41, 3) := by decide +kernel
theorem dX3_levels_17 : decode cX3_levels 17 = .ok (.iconst (-1), 1) := by decide +kernel
theorem dX3_levels_18 : decode cX3_levels 18 = .ok (.ixor, 1) := by decide +kernel
theorem dX3_levels_19 : decode cX3_levels 19 = .ok (.iand, 1) := by decide +kernel
theorem dX3_levels_20 : decode cX3_levels 20 = .ok (.ior, 1) := by decide +kernel
theorem dX3_levels_21 : decode cX3_levels 21 = .ok (.ireturn, 1) := by decide +kernel
theorem dX3_writeLatches_0 : decode cX3_writeLatches 0 = .ok (.aload_n 0, 1) := by decide +kernel
theorem dX3_writeLatches_1 : decode cX3_writeLatches 1 = .ok (.aload_n 0, 1) := by decide +kernel
theorem dX3_writeLatches_2 : decode cX3_writeLatches 2 = .ok (.getfield 38, 3) := by decide +kernel
theorem dX3_writeLatches_5 : decode cX3_writeLatches 5 = .ok (.iload_n 1, 1) := by decide +kernel
theorem dX3_writeLatches_6 : decode cX3_writeLatches 6 = .ok (.iconst (-1), 1) := by decide +kernel
theorem dX3_writeLatches_7 : decode cX3_writeLatches 7 = .ok (.ixor, 1) := by decide +kernel
theorem dX3_writeLatches_8 : decode cX3_writeLatches 8 = .ok (.iand, 1) := by decide +kernel
theorem dX3_writeLatches_9 : decode cX3_writeLatches 9 = .ok (.iload_n 2, 1) := by decide +kernel
theorem dX3_writeLatches_10 : decode cX3_writeLatches 10 = .ok (.iload_n 1, 1) := by decide +kernel
theorem dX3_writeLatches_11 : decode cX3_writeLatches 11 = .ok (.iand, 1) := by decide +kernel
theorem dX3_writeLatches_12 : decode cX3_writeLatches 12 = .ok (.ior, 1) := by decide +kernel
theorem dX3_writeLatches_13 : decode cX3_writeLatches 13 = .ok (.putfield 38, 3) := by decide +kernel
theorem dX3_writeLatches_16 : decode cX3_writeLatches 16 = .ok (.return_, 1) := by decide +kernel
theorem dX3_writeOutputs_0 : decode cX3_writeOutputs 0 = .ok (.aload_n 0, 1) := by decide +kernel
theorem dX3_writeOutputs_1 : decode cX3_writeOutputs 1 = .ok (.aload_n 0, 1) := by decide +kernel
theorem dX3_writeOutputs_2 : decode cX3_writeOutputs 2 = .ok (.getfield 41, 3) := by decide +kernel
theorem dX3_writeOutputs_5 : decode cX3_writeOutputs 5 = .ok (.iload_n 1, 1) := by decide +kernel
theorem dX3_writeOutputs_6 : decode cX3_writeOutputs 6 = .ok (.iconst (-1), 1) := by decide +kernel
theorem dX3_writeOutputs_7 : decode cX3_writeOutputs 7 = .ok (.ixor, 1) := by decide +kernel
theorem dX3_writeOutputs_8 : decode cX3_writeOutputs 8 = .ok (.iand, 1) := by decide +kernel
theorem dX3_writeOutputs_9 : decode cX3_writeOutputs 9 = .ok (.iload_n 2, 1) := by decide +kernel
theorem dX3_writeOutputs_10 : decode cX3_writeOutputs 10 = .ok (.iload_n 1, 1) := by decide +kernel
theorem dX3_writeOutputs_11 : decode cX3_writeOutputs 11 = .ok (.iand, 1) := by decide +kernel
theorem dX3_writeOutputs_12 : decode cX3_writeOutputs 12 = .ok (.ior, 1) := by decide +kernel
theorem dX3_writeOutputs_13 : decode cX3_writeOutputs 13 = .ok (.putfield 41, 3) := by decide +kernel
theorem dX3_writeOutputs_16 : decode cX3_writeOutputs 16 = .ok (.return_, 1) := by decide +kernel
theorem dX3_driveOutside_0 : decode cX3_driveOutside 0 = .ok (.aload_n 0, 1) := by decide +kernel
theorem dX3_driveOutside_1 : decode cX3_driveOutside 1 = .ok (.aload_n 0, 1) := by decide +kernel
theorem dX3_driveOutside_2 : decode cX3_driveOutside 2 = .ok (.getfield 49, 3) := by decide +kernel
theorem dX3_driveOutside_5 : decode cX3_driveOutside 5 = .ok (.iconst 1, 1) := by decide +kernel
theorem dX3_driveOutside_6 : decode cX3_driveOutside 6 = .ok (.iload_n 1, 1) := by decide +kernel
theorem dX3_driveOutside_7 : decode cX3_driveOutside 7 = .ok (.ishl, 1) := by decide +kernel
theorem dX3_driveOutside_8 : decode cX3_driveOutside 8 = .ok (.iconst (-1), 1) := by decide +kernel
theorem dX3_driveOutside_9 : decode cX3_driveOutside 9 = .ok (.ixor, 1) := by decide +kernel
theorem dX3_driveOutside_10 : decode cX3_driveOutside 10 = .ok (.iand, 1) := by decide +kernel
theorem dX3_driveOutside_11 : decode cX3_driveOutside 11 = .ok (.iload_n 2, 1) := by decide +kernel
theorem dX3_driveOutside_12 : decode cX3_driveOutside 12 = .ok (.iload_n 1, 1) := by decide +kernel
theorem dX3_driveOutside_13 : decode cX3_driveOutside 13 = .ok (.ishl, 1) := by decide +kernel
theorem dX3_driveOutside_14 : decode cX3_driveOutside 14 = .ok (.ior, 1) := by decide +kernel
theorem dX3_driveOutside_15 : decode cX3_driveOutside 15 = .ok (.putfield 49, 3) := by decide +kernel
theorem dX3_driveOutside_18 : decode cX3_driveOutside 18 = .ok (.return_, 1) := by decide +kernel
theorem dX3_addScheduled_0 : decode cX3_addScheduled 0 = .ok (.aload_n 0, 1) := by decide +kernel
theorem dX3_addScheduled_1 : decode cX3_addScheduled 1 = .ok (.getfield 64, 3) := by decide +kernel
theorem dX3_addScheduled_4 : decode cX3_addScheduled 4 = .ok (.bipush 32, 2) := by decide +kernel
theorem dX3_addScheduled_6 : decode cX3_addScheduled 6 = .ok (.if_icmp .ge 31, 3) := by decide +kernel
theorem dX3_addScheduled_9 : decode cX3_addScheduled 9 = .ok (.aload_n 0, 1) := by decide +kernel
theorem dX3_addScheduled_10 : decode cX3_addScheduled 10 = .ok (.getfield 21, 3) := by decide +kernel
theorem dX3_addScheduled_13 : decode cX3_addScheduled 13 = .ok (.aload_n 0, 1) := by decide +kernel
theorem dX3_addScheduled_14 : decode cX3_addScheduled 14 = .ok (.getfield 64, 3) := by decide +kernel
theorem dX3_addScheduled_17 : decode cX3_addScheduled 17 = .ok (.iload_n 1, 1) := by decide +kernel
theorem dX3_addScheduled_18 : decode cX3_addScheduled 18 = .ok (.iconst 5, 1) := by decide +kernel
theorem dX3_addScheduled_19 : decode cX3_addScheduled 19 = .ok (.ishl, 1) := by decide +kernel
theorem dX3_addScheduled_20 : decode cX3_addScheduled 20 = .ok (.iload_n 2, 1) := by decide +kernel
theorem dX3_addScheduled_21 : decode cX3_addScheduled 21 = .ok (.iconst 1, 1) := by decide +kernel
theorem dX3_addScheduled_22 : decode cX3_addScheduled 22 = .ok (.ishl, 1) := by decide +kernel
theorem dX3_addScheduled_23 : decode cX3_addScheduled 23 = .ok (.ior, 1) := by decide +kernel
theorem dX3_addScheduled_24 : decode cX3_addScheduled 24 = .ok (.iload_n 3, 1) := by decide +kernel
theorem dX3_addScheduled_25 : decode cX3_addScheduled 25 = .ok (.ior, 1) := by decide +kernel
theorem dX3_addScheduled_26 : decode cX3_addScheduled 26 = .ok (.iastore, 1) := by decide +kernel
theorem dX3_addScheduled_27 : decode cX3_addScheduled 27 = .ok (.aload_n 0, 1) := by decide +kernel
theorem dX3_addScheduled_28 : decode cX3_addScheduled 28 = .ok (.dup, 1) := by decide +kernel
theorem dX3_addScheduled_29 : decode cX3_addScheduled 29 = .ok (.getfield 64, 3) := by decide +kernel
theorem dX3_addScheduled_32 : decode cX3_addScheduled 32 = .ok (.iconst 1, 1) := by decide +kernel
theorem dX3_addScheduled_33 : decode cX3_addScheduled 33 = .ok (.iadd, 1) := by decide +kernel
theorem dX3_addScheduled_34 : decode cX3_addScheduled 34 = .ok (.putfield 64, 3) := by decide +kernel
theorem dX3_addScheduled_37 : decode cX3_addScheduled 37 = .ok (.return_, 1) := by decide +kernel
theorem dX3_applyScheduled_0 : decode cX3_applyScheduled 0 = .ok (.iconst 0, 1) := by decide +kernel
theorem dX3_applyScheduled_1 : decode cX3_applyScheduled 1 = .ok (.istore_n 1, 1) := by decide +kernel
theorem dX3_applyScheduled_2 : decode cX3_applyScheduled 2 = .ok (.iconst 0, 1) := by decide +kernel
theorem dX3_applyScheduled_3 : decode cX3_applyScheduled 3 = .ok (.istore_n 2, 1) := by decide +kernel
theorem dX3_applyScheduled_4 : decode cX3_applyScheduled 4 = .ok (.iload_n 2, 1) := by decide +kernel
theorem dX3_applyScheduled_5 : decode cX3_applyScheduled 5 = .ok (.aload_n 0, 1) := by decide +kernel
theorem dX3_applyScheduled_6 : decode cX3_applyScheduled 6 = .ok (.getfield 64, 3) := by decide +kernel
theorem dX3_applyScheduled_9 : decode cX3_applyScheduled 9 = .ok (.if_icmp .ge 52, 3) := by decide +kernel
theorem dX3_applyScheduled_12 : decode cX3_applyScheduled 12 = .ok (.aload_n 0, 1) := by decide +kernel
theorem dX3_applyScheduled_13 : decode cX3_applyScheduled 13 = .ok (.getfield 21, 3) := by decide +kernel
theorem dX3_applyScheduled_16 : decode cX3_applyScheduled 16 = .ok (.iload_n 2, 1) := by decide +kernel
theorem dX3_applyScheduled_17 : decode cX3_applyScheduled 17 = .ok (.iaload, 1) := by decide +kernel
theorem dX3_applyScheduled_18 : decode cX3_applyScheduled 18 = .ok (.istore_n 3, 1) := by decide +kernel
theorem dX3_applyScheduled_19 : decode cX3_applyScheduled 19 = .ok (.iload_n 3, 1) := by decide +kernel
theorem dX3_applyScheduled_20 : decode cX3_applyScheduled 20 = .ok (.iconst 5, 1) := by decide +kernel
theorem dX3_applyScheduled_21 : decode cX3_applyScheduled 21 = .ok (.ishr, 1) := by decide +kernel
theorem dX3_applyScheduled_22 : decode cX3_applyScheduled 22 = .ok (.aload_n 0, 1) := by decide +kernel
theorem dX3_applyScheduled_23 : decode cX3_applyScheduled 23 = .ok (.getfield 34, 3) := by decide +kernel
theorem dX3_applyScheduled_26 : decode cX3_applyScheduled 26 = .ok (.if_icmp .ne 19, 3) := by decide +kernel
theorem dX3_applyScheduled_29 : decode cX3_applyScheduled 29 = .ok (.aload_n 0, 1) := by decide +kernel
theorem dX3_applyScheduled_30 : decode cX3_applyScheduled 30 = .ok (.iload_n 3, 1) := by decide +kernel
theorem dX3_applyScheduled_31 : decode cX3_applyScheduled 31 = .ok (.iconst 1, 1) := by decide +kernel
theorem dX3_applyScheduled_32 : decode cX3_applyScheduled 32 = .ok (.ishr, 1) := by decide +kernel
theorem dX3_applyScheduled_33 : decode cX3_applyScheduled 33 = .ok (.bipush 15, 2) := by decide +kernel
theorem dX3_applyScheduled_35 : decode cX3_applyScheduled 35 = .ok (.iand, 1) := by decide +kernel
theorem dX3_applyScheduled_36 : decode cX3_applyScheduled 36 = .ok (.iload_n 3, 1) := by decide +kernel
theorem dX3_applyScheduled_37 : decode cX3_applyScheduled 37 = .ok (.iconst 1, 1) := by decide +kernel
theorem dX3_applyScheduled_38 : decode cX3_applyScheduled 38 = .ok (.iand, 1) := by decide +kernel
theorem dX3_applyScheduled_39 : decode cX3_applyScheduled 39 = .ok (.invokevirtual 84, 3) := by decide +kernel
theorem dX3_applyScheduled_42 : decode cX3_applyScheduled 42 = .ok (.goto 13, 3) := by decide +kernel
theorem dX3_applyScheduled_45 : decode cX3_applyScheduled 45 = .ok (.aload_n 0, 1) := by decide +kernel
theorem dX3_applyScheduled_46 : decode cX3_applyScheduled 46 = .ok (.getfield 21, 3) := by decide +kernel
theorem dX3_applyScheduled_49 : decode cX3_applyScheduled 49 = .ok (.iload_n 1, 1) := by decide +kernel
theorem dX3_applyScheduled_50 : decode cX3_applyScheduled 50 = .ok (.iload_n 3, 1) := by decide +kernel
theorem dX3_applyScheduled_51 : decode cX3_applyScheduled 51 = .ok (.iastore, 1) := by decide +kernel
theorem dX3_applyScheduled_52 : decode cX3_applyScheduled 52 = .ok (.iinc 1 1, 3) := by decide +kernel
theorem dX3_applyScheduled_55 : decode cX3_applyScheduled 55 = .ok (.iinc 2 1, 3) := by decide +kernel
theorem dX3_applyScheduled_58 : decode cX3_applyScheduled 58 = .ok (.goto (-54), 3) := by decide +kernel
theorem dX3_applyScheduled_61 : decode cX3_applyScheduled 61 = .ok (.aload_n 0, 1) := by decide +kernel
theorem dX3_applyScheduled_62 : decode cX3_applyScheduled 62 = .ok (.iload_n 1, 1) := by decide +kernel
theorem dX3_applyScheduled_63 : decode cX3_applyScheduled 63 = .ok (.putfield 64, 3) := by decide +kernel
theorem dX3_applyScheduled_66 : decode cX3_applyScheduled 66 = .ok (.return_, 1) := by decide +kernel
theorem dX3_endCycle_0 : decode cX3_endCycle 0 = .ok (.aload_n 0, 1) := by decide +kernel
theorem dX3_endCycle_1 : decode cX3_endCycle 1 = .ok (.invokevirtual 67, 3) := by decide +kernel
theorem dX3_endCycle_4 : decode cX3_endCycle 4 = .ok (.istore_n 1, 1) := by decide +kernel
theorem dX3_endCycle_5 : decode cX3_endCycle 5 = .ok (.iload_n 1, 1) := by decide +kernel
theorem dX3_endCycle_6 : decode cX3_endCycle 6 = .ok (.aload_n 0, 1) := by decide +kernel
theorem dX3_endCycle_7 : decode cX3_endCycle 7 = .ok (.getfield 71, 3) := by decide +kernel
theorem dX3_endCycle_10 : decode cX3_endCycle 10 = .ok (.ixor, 1) := by decide +kernel
theorem dX3_endCycle_11 : decode cX3_endCycle 11 = .ok (.istore_n 2, 1) := by decide +kernel
theorem dX3_endCycle_12 : decode cX3_endCycle 12 = .ok (.iconst 0, 1) := by decide +kernel
theorem dX3_endCycle_13 : decode cX3_endCycle 13 = .ok (.istore_n 3, 1) := by decide +kernel
theorem dX3_endCycle_14 : decode cX3_endCycle 14 = .ok (.iload_n 3, 1) := by decide +kernel
theorem dX3_endCycle_15 : decode cX3_endCycle 15 = .ok (.bipush 16, 2) := by decide +kernel
theorem dX3_endCycle_17 : decode cX3_endCycle 17 = .ok (.if_icmp .ge 64, 3) := by decide +kernel
theorem dX3_endCycle_20 : decode cX3_endCycle 20 = .ok (.iload_n 2, 1) := by decide +kernel
theorem dX3_endCycle_21 : decode cX3_endCycle 21 = .ok (.iload_n 3, 1) := by decide +kernel
theorem dX3_endCycle_22 : decode cX3_endCycle 22 = .ok (.ishr, 1) := by decide +kernel
theorem dX3_endCycle_23 : decode cX3_endCycle 23 = .ok (.ifCond .eq 58, 3) := by decide +kernel
theorem dX3_endCycle_26 : decode cX3_endCycle 26 = .ok (.iload_n 2, 1) := by decide +kernel
theorem dX3_endCycle_27 : decode cX3_endCycle 27 = .ok (.iload_n 3, 1) := by decide +kernel
theorem dX3_endCycle_28 : decode cX3_endCycle 28 = .ok (.ishr, 1) := by decide +kernel
theorem dX3_endCycle_29 : decode cX3_endCycle 29 = .ok (.iconst 1, 1) := by decide +kernel
theorem dX3_endCycle_30 : decode cX3_endCycle 30 = .ok (.iand, 1) := by decide +kernel
theorem dX3_endCycle_31 : decode cX3_endCycle 31 = .ok (.iconst 1, 1) := by decide +kernel
theorem dX3_endCycle_32 : decode cX3_endCycle 32 = .ok (.if_icmp .ne 43, 3) := by decide +kernel
theorem dX3_endCycle_35 : decode cX3_endCycle 35 = .ok (.aload_n 0, 1) := by decide +kernel
theorem dX3_endCycle_36 : decode cX3_endCycle 36 = .ok (.getfield 27, 3) := by decide +kernel
theorem dX3_endCycle_39 : decode cX3_endCycle 39 = .ok (.iload_n 3, 1) := by decide +kernel
theorem dX3_endCycle_40 : decode cX3_endCycle 40 = .ok (.dup2, 1) := by decide +kernel
theorem dX3_endCycle_41 : decode cX3_endCycle 41 = .ok (.iaload, 1) := by decide +kernel
theorem dX3_endCycle_42 : decode cX3_endCycle 42 = .ok (.iconst 1, 1) := by decide +kernel
theorem dX3_endCycle_43 : decode cX3_endCycle 43 = .ok (.iadd, 1) := by decide +kernel
theorem dX3_endCycle_44 : decode cX3_endCycle 44 = .ok (.iastore, 1) := by decide +kernel
theorem dX3_endCycle_45 : decode cX3_endCycle 45 = .ok (.aload_n 0, 1) := by decide +kernel
theorem dX3_endCycle_46 : decode cX3_endCycle 46 = .ok (.getfield 30, 3) := by decide +kernel
theorem dX3_endCycle_49 : decode cX3_endCycle 49 = .ok (.iload_n 3, 1) := by decide +kernel
theorem dX3_endCycle_50 : decode cX3_endCycle 50 = .ok (.dup2, 1) := by decide +kernel
theorem dX3_endCycle_51 : decode cX3_endCycle 51 = .ok (.iaload, 1) := by decide +kernel
theorem dX3_endCycle_52 : decode cX3_endCycle 52 = .ok (.iload_n 1, 1) := by decide +kernel
theorem dX3_endCycle_53 : decode cX3_endCycle 53 = .ok (.iload_n 3, 1) := by decide +kernel
theorem dX3_endCycle_54 : decode cX3_endCycle 54 = .ok (.ishr, 1) := by decide +kernel
theorem dX3_endCycle_55 : decode cX3_endCycle 55 = .ok (.iconst 1, 1) := by decide +kernel
theorem dX3_endCycle_56 : decode cX3_endCycle 56 = .ok (.iand, 1) := by decide +kernel
theorem dX3_endCycle_57 : decode cX3_endCycle 57 = .ok (.iconst 1, 1) := by decide +kernel
theorem dX3_endCycle_58 : decode cX3_endCycle 58 = .ok (.if_icmp .ne 11, 3) := by decide +kernel
theorem dX3_endCycle_61 : decode cX3_endCycle 61 = .ok (.aload_n 0, 1) := by decide +kernel
theorem dX3_endCycle_62 : decode cX3_endCycle 62 = .ok (.getfield 34, 3) := by decide +kernel
theorem dX3_endCycle_65 : decode cX3_endCycle 65 = .ok (.ineg, 1) := by decide +kernel
theorem dX3_endCycle_66 : decode cX3_endCycle 66 = .ok (.goto 7, 3) := by decide +kernel
theorem dX3_endCycle_69 : decode cX3_endCycle 69 = .ok (.aload_n 0, 1) := by decide +kernel
theorem dX3_endCycle_70 : decode cX3_endCycle 70 = .ok (.getfield 34, 3) := by decide +kernel
theorem dX3_endCycle_73 : decode cX3_endCycle 73 = .ok (.iadd, 1) := by decide +kernel
theorem dX3_endCycle_74 : decode cX3_endCycle 74 = .ok (.iastore, 1) := by decide +kernel
theorem dX3_endCycle_75 : decode cX3_endCycle 75 = .ok (.iinc 3 1, 3) := by decide +kernel
theorem dX3_endCycle_78 : decode cX3_endCycle 78 = .ok (.goto (-64), 3) := by decide +kernel
theorem dX3_endCycle_81 : decode cX3_endCycle 81 = .ok (.aload_n 0, 1) := by decide +kernel
theorem dX3_endCycle_82 : decode cX3_endCycle 82 = .ok (.iload_n 1, 1) := by decide +kernel
theorem dX3_endCycle_83 : decode cX3_endCycle 83 = .ok (.putfield 71, 3) := by decide +kernel
theorem dX3_endCycle_86 : decode cX3_endCycle 86 = .ok (.aload_n 0, 1) := by decide +kernel
theorem dX3_endCycle_87 : decode cX3_endCycle 87 = .ok (.getfield 24, 3) := by decide +kernel
theorem dX3_endCycle_90 : decode cX3_endCycle 90 = .ok (.aload_n 0, 1) := by decide +kernel
theorem dX3_endCycle_91 : decode cX3_endCycle 91 = .ok (.getfield 34, 3) := by decide +kernel
theorem dX3_endCycle_94 : decode cX3_endCycle 94 = .ok (.bipush 64, 2) := by decide +kernel
theorem dX3_endCycle_96 : decode cX3_endCycle 96 = .ok (.irem, 1) := by decide +kernel
theorem dX3_endCycle_97 : decode cX3_endCycle 97 = .ok (.iload_n 1, 1) := by decide +kernel
theorem dX3_endCycle_98 : decode cX3_endCycle 98 = .ok (.iastore, 1) := by decide +kernel
theorem dX3_endCycle_99 : decode cX3_endCycle 99 = .ok (.aload_n 0, 1) := by decide +kernel
theorem dX3_endCycle_100 : decode cX3_endCycle 100 = .ok (.dup, 1) := by decide +kernel
theorem dX3_endCycle_101 : decode cX3_endCycle 101 = .ok (.getfield 34, 3) := by decide +kernel
theorem dX3_endCycle_104 : decode cX3_endCycle 104 = .ok (.iconst 1, 1) := by decide +kernel
theorem dX3_endCycle_105 : decode cX3_endCycle 105 = .ok (.iadd, 1) := by decide +kernel
theorem dX3_endCycle_106 : decode cX3_endCycle 106 = .ok (.putfield 34, 3) := by decide +kernel
theorem dX3_endCycle_109 : decode cX3_endCycle 109 = .ok (.return_, 1) := by decide +kernel
theorem dX3_levelsAfter_0 : decode cX3_levelsAfter 0 = .ok (.iload_n 1, 1) := by decide +kernel
theorem dX3_levelsAfter_1 : decode cX3_levelsAfter 1 = .ok (.ifCond .ge 7, 3) := by decide +kernel
theorem dX3_levelsAfter_4 : decode cX3_levelsAfter 4 = .ok (.iconst 0, 1) := by decide +kernel
theorem dX3_levelsAfter_5 : decode cX3_levelsAfter 5 = .ok (.goto 12, 3) := by decide +kernel
theorem dX3_levelsAfter_8 : decode cX3_levelsAfter 8 = .ok (.aload_n 0, 1) := by decide +kernel
theorem dX3_levelsAfter_9 : decode cX3_levelsAfter 9 = .ok (.getfield 24, 3) := by decide +kernel
theorem dX3_levelsAfter_12 : decode cX3_levelsAfter 12 = .ok (.iload_n 1, 1) := by decide +kernel
theorem dX3_levelsAfter_13 : decode cX3_levelsAfter 13 = .ok (.bipush 64, 2) := by decide +kernel
theorem dX3_levelsAfter_15 : decode cX3_levelsAfter 15 = .ok (.irem, 1) := by decide +kernel
theorem dX3_levelsAfter_16 : decode cX3_levelsAfter 16 = .ok (.iaload, 1) := by decide +kernel
theorem dX3_levelsAfter_17 : decode cX3_levelsAfter 17 = .ok (.ireturn, 1) := by decide +kernel
theorem dX3_highCycles_0 : decode cX3_highCycles 0 = .ok (.aload_n 0, 1) := by decide +kernel
theorem dX3_highCycles_1 : decode cX3_highCycles 1 = .ok (.getfield 71, 3) := by decide +kernel
theorem dX3_highCycles_4 : decode cX3_highCycles 4 = .ok (.iload_n 1, 1) := by decide +kernel
theorem dX3_highCycles_5 : decode cX3_highCycles 5 = .ok (.ishr, 1) := by decide +kernel
theorem dX3_highCycles_6 : decode cX3_highCycles 6 = .ok (.iconst 1, 1) := by decide +kernel
theorem dX3_highCycles_7 : decode cX3_highCycles 7 = .ok (.iand, 1) := by decide +kernel
theorem dX3_highCycles_8 : decode cX3_highCycles 8 = .ok (.iconst 1, 1) := by decide +kernel
theorem dX3_highCycles_9 : decode cX3_highCycles 9 = .ok (.if_icmp .ne 7, 3) := by decide +kernel
theorem dX3_highCycles_12 : decode cX3_highCycles 12 = .ok (.iconst 1, 1) := by decide +kernel
theorem dX3_highCycles_13 : decode cX3_highCycles 13 = .ok (.goto 4, 3) := by decide +kernel
theorem dX3_highCycles_16 : decode cX3_highCycles 16 = .ok (.iconst 0, 1) := by decide +kernel
theorem dX3_highCycles_17 : decode cX3_highCycles 17 = .ok (.istore_n 2, 1) := by decide +kernel
theorem dX3_highCycles_18 : decode cX3_highCycles 18 = .ok (.iload_n 2, 1) := by decide +kernel
theorem dX3_highCycles_19 : decode cX3_highCycles 19 = .ok (.ifCond .eq 17, 3) := by decide +kernel
theorem dX3_highCycles_22 : decode cX3_highCycles 22 = .ok (.aload_n 0, 1) := by decide +kernel
theorem dX3_highCycles_23 : decode cX3_highCycles 23 = .ok (.getfield 30, 3) := by decide +kernel
theorem dX3_highCycles_26 : decode cX3_highCycles 26 = .ok (.iload_n 1, 1) := by decide +kernel
theorem dX3_highCycles_27 : decode cX3_highCycles 27 = .ok (.iaload, 1) := by decide +kernel
theorem dX3_highCycles_28 : decode cX3_highCycles 28 = .ok (.aload_n 0, 1) := by decide +kernel
theorem dX3_highCycles_29 : decode cX3_highCycles 29 = .ok (.getfield 34, 3) := by decide +kernel
theorem dX3_highCycles_32 : decode cX3_highCycles 32 = .ok (.iadd, 1) := by decide +kernel
theorem dX3_highCycles_33 : decode cX3_highCycles 33 = .ok (.goto 9, 3) := by decide +kernel
theorem dX3_highCycles_36 : decode cX3_highCycles 36 = .ok (.aload_n 0, 1) := by decide +kernel
theorem dX3_highCycles_37 : decode cX3_highCycles 37 = .ok (.getfield 30, 3) := by decide +kernel
theorem dX3_highCycles_40 : decode cX3_highCycles 40 = .ok (.iload_n 1, 1) := by decide +kernel
theorem dX3_highCycles_41 : decode cX3_highCycles 41 = .ok (.iaload, 1) := by decide +kernel
theorem dX3_highCycles_42 : decode cX3_highCycles 42 = .ok (.ireturn, 1) := by decide +kernel
theorem dX4_init_0 : decode cX4_init 0 = .ok (.aload_n 0, 1) := by decide +kernel
theorem dX4_init_1 : decode cX4_init 1 = .ok (.invokespecial 3, 3) := by decide +kernel
theorem dX4_init_4 : decode cX4_init 4 = .ok (.aload_n 0, 1) := by decide +kernel
theorem dX4_init_5 : decode cX4_init 5 = .ok (.iconst 0, 1) := by decide +kernel
theorem dX4_init_6 : decode cX4_init 6 = .ok (.putfield 9, 3) := by decide +kernel
theorem dX4_init_9 : decode cX4_init 9 = .ok (.aload_n 0, 1) := by decide +kernel
theorem dX4_init_10 : decode cX4_init 10 = .ok (.iconst 0, 1) := by decide +kernel
theorem dX4_init_11 : decode cX4_init 11 = .ok (.putfield 15, 3) := by decide +kernel
theorem dX4_init_14 : decode cX4_init 14 = .ok (.aload_n 0, 1) := by decide +kernel
theorem dX4_init_15 : decode cX4_init 15 = .ok (.iconst 4, 1) := by decide +kernel
theorem dX4_init_16 : decode cX4_init 16 = .ok (.anewarray 18, 3) := by decide +kernel
theorem dX4_init_19 : decode cX4_init 19 = .ok (.putfield 20, 3) := by decide +kernel
theorem dX4_init_22 : decode cX4_init 22 = .ok (.aload_n 0, 1) := by decide +kernel
theorem dX4_init_23 : decode cX4_init 23 = .ok (.bipush 32, 2) := by decide +kernel
theorem dX4_init_25 : decode cX4_init 25 = .ok (.anewarray 24, 3) := by decide +kernel
theorem dX4_init_28 : decode cX4_init 28 = .ok (.putfield 26, 3) := by decide +kernel
theorem dX4_init_31 : decode cX4_init 31 = .ok (.aload_n 0, 1) := by decide +kernel
theorem dX4_init_32 : decode cX4_init 32 = .ok (.new 24, 3) := by decide +kernel
theorem dX4_init_35 : decode cX4_init 35 = .ok (.dup, 1) := by decide +kernel
theorem dX4_init_36 : decode cX4_init 36 = .ok (.invokespecial 30, 3) := by decide +kernel
theorem dX4_init_39 : decode cX4_init 39 = .ok (.putfield 31, 3) := by decide +kernel
theorem dX4_init_42 : decode cX4_init 42 = .ok (.iconst 0, 1) := by decide +kernel
theorem dX4_init_43 : decode cX4_init 43 = .ok (.istore_n 1, 1) := by decide +kernel
theorem dX4_init_44 : decode cX4_init 44 = .ok (.iload_n 1, 1) := by decide +kernel
theorem dX4_init_45 : decode cX4_init 45 = .ok (.iconst 4, 1) := by decide +kernel
theorem dX4_init_46 : decode cX4_init 46 = .ok (.if_icmp .ge 22, 3) := by decide +kernel
theorem dX4_init_49 : decode cX4_init 49 = .ok (.aload_n 0, 1) := by decide +kernel
theorem dX4_init_50 : decode cX4_init 50 = .ok (.getfield 20, 3) := by decide +kernel
theorem dX4_init_53 : decode cX4_init 53 = .ok (.iload_n 1, 1) := by decide +kernel
theorem dX4_init_54 : decode cX4_init 54 = .ok (.new 18, 3) := by decide +kernel
theorem dX4_init_57 : decode cX4_init 57 = .ok (.dup, 1) := by decide +kernel
theorem dX4_init_58 : decode cX4_init 58 = .ok (.invokespecial 35, 3) := by decide +kernel
theorem dX4_init_61 : decode cX4_init 61 = .ok (.aastore, 1) := by decide +kernel
theorem dX4_init_62 : decode cX4_init 62 = .ok (.iinc 1 1, 3) := by decide +kernel
theorem dX4_init_65 : decode cX4_init 65 = .ok (.goto (-21), 3) := by decide +kernel
theorem dX4_init_68 : decode cX4_init 68 = .ok (.iconst 0, 1) := by decide +kernel
theorem dX4_init_69 : decode cX4_init 69 = .ok (.istore_n 1, 1) := by decide +kernel
theorem dX4_init_70 : decode cX4_init 70 = .ok (.iload_n 1, 1) := by decide +kernel
theorem dX4_init_71 : decode cX4_init 71 = .ok (.bipush 32, 2) := by decide +kernel
theorem dX4_init_73 : decode cX4_init 73 = .ok (.if_icmp .ge 22, 3) := by decide +kernel
theorem dX4_init_76 : decode cX4_init 76 = .ok (.aload_n 0, 1) := by decide +kernel
theorem dX4_init_77 : decode cX4_init 77 = .ok (.getfield 26, 3) := by decide +kernel
theorem dX4_init_80 : decode cX4_init 80 = .ok (.iload_n 1, 1) := by decide +kernel
theorem dX4_init_81 : decode cX4_init 81 = .ok (.new 24, 3) := by decide +kernel
theorem dX4_init_84 : decode cX4_init 84 = .ok (.dup, 1) := by decide +kernel
theorem dX4_init_85 : decode cX4_init 85 = .ok (.invokespecial 30, 3) := by decide +kernel
theorem dX4_init_88 : decode cX4_init 88 = .ok (.aastore, 1) := by decide +kernel
theorem dX4_init_89 : decode cX4_init 89 = .ok (.iinc 1 1, 3) := by decide +kernel
theorem dX4_init_92 : decode cX4_init 92 = .ok (.goto (-22), 3) := by decide +kernel
theorem dX4_init_95 : decode cX4_init 95 = .ok (.return_, 1) := by decide +kernel
theorem dX4_clear_0 : decode cX4_clear 0 = .ok (.aload_n 0, 1) := by decide +kernel
theorem dX4_clear_1 : decode cX4_clear 1 = .ok (.iconst 0, 1) := by decide +kernel
theorem dX4_clear_2 : decode cX4_clear 2 = .ok (.putfield 9, 3) := by decide +kernel
theorem dX4_clear_5 : decode cX4_clear 5 = .ok (.aload_n 0, 1) := by decide +kernel
theorem dX4_clear_6 : decode cX4_clear 6 = .ok (.iconst 0, 1) := by decide +kernel
theorem dX4_clear_7 : decode cX4_clear 7 = .ok (.putfield 15, 3) := by decide +kernel
theorem dX4_clear_10 : decode cX4_clear 10 = .ok (.iconst 0, 1) := by decide +kernel
theorem dX4_clear_11 : decode cX4_clear 11 = .ok (.istore_n 1, 1) := by decide +kernel
theorem dX4_clear_12 : decode cX4_clear 12 = .ok (.iload_n 1, 1) := by decide +kernel
theorem dX4_clear_13 : decode cX4_clear 13 = .ok (.iconst 4, 1) := by decide +kernel
theorem dX4_clear_14 : decode cX4_clear 14 = .ok (.if_icmp .ge 18, 3) := by decide +kernel
theorem dX4_clear_17 : decode cX4_clear 17 = .ok (.aload_n 0, 1) := by decide +kernel
theorem dX4_clear_18 : decode cX4_clear 18 = .ok (.getfield 20, 3) := by decide +kernel
theorem dX4_clear_21 : decode cX4_clear 21 = .ok (.iload_n 1, 1) := by decide +kernel
theorem dX4_clear_22 : decode cX4_clear 22 = .ok (.aaload, 1) := by decide +kernel
theorem dX4_clear_23 : decode cX4_clear 23 = .ok (.invokevirtual 36, 3) := by decide +kernel
theorem dX4_clear_26 : decode cX4_clear 26 = .ok (.iinc 1 1, 3) := by decide +kernel
theorem dX4_clear_29 : decode cX4_clear 29 = .ok (.goto (-17), 3) := by decide +kernel
theorem dX4_clear_32 : decode cX4_clear 32 = .ok (.return_, 1) := by decide +kernel
theorem dX4_isFull_0 : decode cX4_isFull 0 = .ok (.aload_n 0, 1) := by decide +kernel
theorem dX4_isFull_1 : decode cX4_isFull 1 = .ok (.getfield 9, 3) := by decide +kernel
theorem dX4_isFull_4 : decode cX4_isFull 4 = .ok (.bipush 32, 2) := by decide +kernel
theorem dX4_isFull_6 : decode cX4_isFull 6 = .ok (.if_icmp .lt 7, 3) := by decide +kernel
theorem dX4_isFull_9 : decode cX4_isFull 9 = .ok (.iconst 1, 1) := by decide +kernel
theorem dX4_isFull_10 : decode cX4_isFull 10 = .ok (.goto 4, 3) := by decide +kernel
theorem dX4_isFull_13 : decode cX4_isFull 13 = .ok (.iconst 0, 1) := by decide +kernel
theorem dX4_isFull_14 : decode cX4_isFull 14 = .ok (.ireturn, 1) := by decide +kernel
theorem dX4_add_0 : decode cX4_add 0 = .ok (.aload_n 0, 1) := by decide +kernel
theorem dX4_add_1 : decode cX4_add 1 = .ok (.invokevirtual 39, 3) := by decide +kernel
theorem dX4_add_4 : decode cX4_add 4 = .ok (.ifCond .eq 8, 3) := by decide +kernel
theorem dX4_add_7 : decode cX4_add 7 = .ok (.aload_n 0, 1) := by decide +kernel
theorem dX4_add_8 : decode cX4_add 8 = .ok (.getfield 31, 3) := by decide +kernel
theorem dX4_add_11 : decode cX4_add 11 = .ok (.areturn, 1) := by decide +kernel
theorem dX4_add_12 : decode cX4_add 12 = .ok (.aload_n 0, 1) := by decide +kernel
theorem dX4_add_13 : decode cX4_add 13 = .ok (.getfield 26, 3) := by decide +kernel
theorem dX4_add_16 : decode cX4_add 16 = .ok (.aload_n 0, 1) := by decide +kernel
theorem dX4_add_17 : decode cX4_add 17 = .ok (.getfield 9, 3) := by decide +kernel
theorem dX4_add_20 : decode cX4_add 20 = .ok (.aaload, 1) := by decide +kernel
theorem dX4_add_21 : decode cX4_add 21 = .ok (.astore_n 2, 1) := by decide +kernel
theorem dX4_add_22 : decode cX4_add 22 = .ok (.aload_n 2, 1) := by decide +kernel
theorem dX4_add_23 : decode cX4_add 23 = .ok (.aload_n 1, 1) := by decide +kernel
theorem dX4_add_24 : decode cX4_add 24 = .ok (.invokevirtual 43, 3) := by decide +kernel
theorem dX4_add_27 : decode cX4_add 27 = .ok (.aload_n 0, 1) := by decide +kernel
theorem dX4_add_28 : decode cX4_add 28 = .ok (.dup, 1) := by decide +kernel
theorem dX4_add_29 : decode cX4_add 29 = .ok (.getfield 9, 3) := by decide +kernel
theorem dX4_add_32 : decode cX4_add 32 = .ok (.iconst 1, 1) := by decide +kernel
theorem dX4_add_33 : decode cX4_add 33 = .ok (.iadd, 1) := by decide +kernel
theorem dX4_add_34 : decode cX4_add 34 = .ok (.putfield 9, 3) := by decide +kernel
theorem dX4_add_37 : decode cX4_add 37 = .ok (.aload_n 2, 1) := by decide +kernel
theorem dX4_add_38 : decode cX4_add 38 = .ok (.areturn, 1) := by decide +kernel
theorem dX4_instructionAt_0 : decode cX4_instructionAt 0 = .ok (.iload_n 1, 1) := by decide +kernel
theorem dX4_instructionAt_1 : decode cX4_instructionAt 1 = .ok (.ifCond .lt 11, 3) := by decide +kernel
theorem dX4_instructionAt_4 : decode cX4_instructionAt 4 = .ok (.iload_n 1, 1) := by decide +kernel
theorem dX4_instructionAt_5 : decode cX4_instructionAt 5 = .ok (.aload_n 0, 1) := by decide +kernel
theorem dX4_instructionAt_6 : decode cX4_instructionAt 6 = .ok (.getfield 9, 3) := by decide +kernel
theorem dX4_instructionAt_9 : decode cX4_instructionAt 9 = .ok (.if_icmp .lt 10, 3) := by decide +kernel
theorem dX4_instructionAt_12 : decode cX4_instructionAt 12 = .ok (.aload_n 0, 1) := by decide +kernel
theorem dX4_instructionAt_13 : decode cX4_instructionAt 13 = .ok (.getfield 31, 3) := by decide +kernel
theorem dX4_instructionAt_16 : decode cX4_instructionAt 16 = .ok (.goto 9, 3) := by decide +kernel
theorem dX4_instructionAt_19 : decode cX4_instructionAt 19 = .ok (.aload_n 0, 1) := by decide +kernel
theorem dX4_instructionAt_20 : decode cX4_instructionAt 20 = .ok (.getfield 26, 3) := by decide +kernel
theorem dX4_instructionAt_23 : decode cX4_instructionAt 23 = .ok (.iload_n 1, 1) := by decide +kernel
theorem dX4_instructionAt_24 : decode cX4_instructionAt 24 = .ok (.aaload, 1) := by decide +kernel
theorem dX4_instructionAt_25 : decode cX4_instructionAt 25 = .ok (.areturn, 1) := by decide +kernel
theorem dX4_hasEngine_0 : decode cX4_hasEngine 0 = .ok (.iload_n 1, 1) := by decide +kernel
theorem dX4_hasEngine_1 : decode cX4_hasEngine 1 = .ok (.ifCond .lt 24, 3) := by decide +kernel
theorem dX4_hasEngine_4 : decode cX4_hasEngine 4 = .ok (.iload_n 1, 1) := by decide +kernel
theorem dX4_hasEngine_5 : decode cX4_hasEngine 5 = .ok (.iconst 4, 1) := by decide +kernel
theorem dX4_hasEngine_6 : decode cX4_hasEngine 6 = .ok (.if_icmp .ge 19, 3) := by decide +kernel
theorem dX4_hasEngine_9 : decode cX4_hasEngine 9 = .ok (.aload_n 0, 1) := by decide +kernel
theorem dX4_hasEngine_10 : decode cX4_hasEngine 10 = .ok (.getfield 20, 3) := by decide +kernel
theorem dX4_hasEngine_13 : decode cX4_hasEngine 13 = .ok (.iload_n 1, 1) := by decide +kernel
theorem dX4_hasEngine_14 : decode cX4_hasEngine 14 = .ok (.aaload, 1) := by decide +kernel
theorem dX4_hasEngine_15 : decode cX4_hasEngine 15 = .ok (.getfield 47, 3) := by decide +kernel
theorem dX4_hasEngine_18 : decode cX4_hasEngine 18 = .ok (.ifCond .eq 7, 3) := by decide +kernel
theorem dX4_hasEngine_21 : decode cX4_hasEngine 21 = .ok (.iconst 1, 1) := by decide +kernel
theorem dX4_hasEngine_22 : decode cX4_hasEngine 22 = .ok (.goto 4, 3) := by decide +kernel
theorem dX4_hasEngine_25 : decode cX4_hasEngine 25 = .ok (.iconst 0, 1) := by decide +kernel
theorem dX4_hasEngine_26 : decode cX4_hasEngine 26 = .ok (.ireturn, 1) := by decide +kernel
theorem dX4_engineMask_0 : decode cX4_engineMask 0 = .ok (.iconst 0, 1) := by decide +kernel
theorem dX4_engineMask_1 : decode cX4_engineMask 1 = .ok (.istore_n 1, 1) := by decide +kernel
theorem dX4_engineMask_2 : decode cX4_engineMask 2 = .ok (.iconst 0, 1) := by decide +kernel
theorem dX4_engineMask_3 : decode cX4_engineMask 3 = .ok (.istore_n 2, 1) := by decide +kernel
theorem dX4_engineMask_4 : decode cX4_engineMask 4 = .ok (.iload_n 2, 1) := by decide +kernel
theorem dX4_engineMask_5 : decode cX4_engineMask 5 = .ok (.iconst 4, 1) := by decide +kernel
theorem dX4_engineMask_6 : decode cX4_engineMask 6 = .ok (.if_icmp .ge 27, 3) := by decide +kernel
theorem dX4_engineMask_9 : decode cX4_engineMask 9 = .ok (.aload_n 0, 1) := by decide +kernel
theorem dX4_engineMask_10 : decode cX4_engineMask 10 = .ok (.getfield 20, 3) := by decide +kernel
theorem dX4_engineMask_13 : decode cX4_engineMask 13 = .ok (.iload_n 2, 1) := by decide +kernel
theorem dX4_engineMask_14 : decode cX4_engineMask 14 = .ok (.aaload, 1) := by decide +kernel
theorem dX4_engineMask_15 : decode cX4_engineMask 15 = .ok (.getfield 47, 3) := by decide +kernel
theorem dX4_engineMask_18 : decode cX4_engineMask 18 = .ok (.ifCond .eq 9, 3) := by decide +kernel
theorem dX4_engineMask_21 : decode cX4_engineMask 21 = .ok (.iload_n 1, 1) := by decide +kernel
theorem dX4_engineMask_22 : decode cX4_engineMask 22 = .ok (.iconst 1, 1) := by decide +kernel
theorem dX4_engineMask_23 : decode cX4_engineMask 23 = .ok (.iload_n 2, 1) := by decide +kernel
theorem dX4_engineMask_24 : decode cX4_engineMask 24 = .ok (.ishl, 1) := by decide +kernel
theorem dX4_engineMask_25 : decode cX4_engineMask 25 = .ok (.ior, 1) := by decide +kernel
theorem dX4_engineMask_26 : decode cX4_engineMask 26 = .ok (.istore_n 1, 1) := by decide +kernel
theorem dX4_engineMask_27 : decode cX4_engineMask 27 = .ok (.iinc 2 1, 3) := by decide +kernel
theorem dX4_engineMask_30 : decode cX4_engineMask 30 = .ok (.goto (-26), 3) := by decide +kernel
theorem dX4_engineMask_33 : decode cX4_engineMask 33 = .ok (.iload_n 1, 1) := by decide +kernel
theorem dX4_engineMask_34 : decode cX4_engineMask 34 = .ok (.ireturn, 1) := by decide +kernel
theorem dX4_addressAfter_0 : decode cX4_addressAfter 0 = .ok (.iload_n 1, 1) := by decide +kernel
theorem dX4_addressAfter_1 : decode cX4_addressAfter 1 = .ok (.aload_n 2, 1) := by decide +kernel
theorem dX4_addressAfter_2 : decode cX4_addressAfter 2 = .ok (.getfield 51, 3) := by decide +kernel
theorem dX4_addressAfter_5 : decode cX4_addressAfter 5 = .ok (.if_icmp .ne 8, 3) := by decide +kernel
theorem dX4_addressAfter_8 : decode cX4_addressAfter 8 = .ok (.aload_n 2, 1) := by decide +kernel
theorem dX4_addressAfter_9 : decode cX4_addressAfter 9 = .ok (.getfield 54, 3) := by decide +kernel
theorem dX4_addressAfter_12 : decode cX4_addressAfter 12 = .ok (.ireturn, 1) := by decide +kernel
theorem dX4_addressAfter_13 : decode cX4_addressAfter 13 = .ok (.iload_n 1, 1) := by decide +kernel
theorem dX4_addressAfter_14 : decode cX4_addressAfter 14 = .ok (.iconst 1, 1) := by decide +kernel
theorem dX4_addressAfter_15 : decode cX4_addressAfter 15 = .ok (.iadd, 1) := by decide +kernel
theorem dX4_addressAfter_16 : decode cX4_addressAfter 16 = .ok (.aload_n 0, 1) := by decide +kernel
theorem dX4_addressAfter_17 : decode cX4_addressAfter 17 = .ok (.getfield 9, 3) := by decide +kernel
theorem dX4_addressAfter_20 : decode cX4_addressAfter 20 = .ok (.if_icmp .ge 9, 3) := by decide +kernel
theorem dX4_addressAfter_23 : decode cX4_addressAfter 23 = .ok (.iload_n 1, 1) := by decide +kernel
theorem dX4_addressAfter_24 : decode cX4_addressAfter 24 = .ok (.iconst 1, 1) := by decide +kernel
theorem dX4_addressAfter_25 : decode cX4_addressAfter 25 = .ok (.iadd, 1) := by decide +kernel
theorem dX4_addressAfter_26 : decode cX4_addressAfter 26 = .ok (.goto 4, 3) := by decide +kernel
theorem dX4_addressAfter_29 : decode cX4_addressAfter 29 = .ok (.iconst 0, 1) := by decide +kernel
theorem dX4_addressAfter_30 : decode cX4_addressAfter 30 = .ok (.ireturn, 1) := by decide +kernel
theorem dX4_addressOf_0 : decode cX4_addressOf 0 = .ok (.aload_n 0, 1) := by decide +kernel
theorem dX4_addressOf_1 : decode cX4_addressOf 1 = .ok (.getfield 9, 3) := by decide +kernel
theorem dX4_addressOf_4 : decode cX4_addressOf 4 = .ok (.ifCond .ne 7, 3) := by decide +kernel
theorem dX4_addressOf_7 : decode cX4_addressOf 7 = .ok (.iconst 0, 1) := by decide +kernel
theorem dX4_addressOf_8 : decode cX4_addressOf 8 = .ok (.goto 14, 3) := by decide +kernel
theorem dX4_addressOf_11 : decode cX4_addressOf 11 = .ok (.iload_n 1, 1) := by decide +kernel
theorem dX4_addressOf_12 : decode cX4_addressOf 12 = .ok (.invokestatic 57, 3) := by decide +kernel
theorem dX4_addressOf_15 : decode cX4_addressOf 15 = .ok (.aload_n 0, 1) := by decide +kernel
theorem dX4_addressOf_16 : decode cX4_addressOf 16 = .ok (.getfield 9, 3) := by decide +kernel
theorem dX4_addressOf_19 : decode cX4_addressOf 19 = .ok (.i2l, 1) := by decide +kernel
theorem dX4_addressOf_20 : decode cX4_addressOf 20 = .ok (.lrem, 1) := by decide +kernel
theorem dX4_addressOf_21 : decode cX4_addressOf 21 = .ok (.l2i, 1) := by decide +kernel
theorem dX4_addressOf_22 : decode cX4_addressOf 22 = .ok (.ireturn, 1) := by decide +kernel
theorem dX5_init_0 : decode cX5_init 0 = .ok (.aload_n 0, 1) := by decide +kernel
theorem dX5_init_1 : decode cX5_init 1 = .ok (.invokespecial 3, 3) := by decide +kernel
theorem dX5_init_4 : decode cX5_init 4 = .ok (.aload_n 0, 1) := by decide +kernel
theorem dX5_init_5 : decode cX5_init 5 = .ok (.iconst 0, 1) := by decide +kernel
theorem dX5_init_6 : decode cX5_init 6 = .ok (.putfield 9, 3) := by decide +kernel
theorem dX5_init_9 : decode cX5_init 9 = .ok (.aload_n 0, 1) := by decide +kernel
theorem dX5_init_10 : decode cX5_init 10 = .ok (.iconst 0, 1) := by decide +kernel
theorem dX5_init_11 : decode cX5_init 11 = .ok (.putfield 15, 3) := by decide +kernel
theorem dX5_init_14 : decode cX5_init 14 = .ok (.aload_n 0, 1) := by decide +kernel
theorem dX5_init_15 : decode cX5_init 15 = .ok (.bipush 32, 2) := by decide +kernel
theorem dX5_init_17 : decode cX5_init 17 = .ok (.newarray .int, 2) := by decide +kernel
theorem dX5_init_19 : decode cX5_init 19 = .ok (.putfield 19, 3) := by decide +kernel
theorem dX5_init_22 : decode cX5_init 22 = .ok (.aload_n 0, 1) := by decide +kernel
theorem dX5_init_23 : decode cX5_init 23 = .ok (.bipush 32, 2) := by decide +kernel
theorem dX5_init_25 : decode cX5_init 25 = .ok (.newarray .int, 2) := by decide +kernel
theorem dX5_init_27 : decode cX5_init 27 = .ok (.putfield 23, 3) := by decide +kernel
theorem dX5_init_30 : decode cX5_init 30 = .ok (.aload_n 0, 1) := by decide +kernel
theorem dX5_init_31 : decode cX5_init 31 = .ok (.aload_n 1, 1) := by decide +kernel
theorem dX5_init_32 : decode cX5_init 32 = .ok (.putfield 26, 3) := by decide +kernel
theorem dX5_init_35 : decode cX5_init 35 = .ok (.aload_n 0, 1) := by decide +kernel
theorem dX5_init_36 : decode cX5_init 36 = .ok (.aload_n 2, 1) := by decide +kernel
theorem dX5_init_37 : decode cX5_init 37 = .ok (.putfield 30, 3) := by decide +kernel
theorem dX5_init_40 : decode cX5_init 40 = .ok (.return_, 1) := by decide +kernel
theorem dX5_readProgram_0 : decode cX5_readProgram 0 = .ok (.aload_n 0, 1) := by decide +kernel
theorem dX5_readProgram_1 : decode cX5_readProgram 1 = .ok (.aload_n 1, 1) := by decide +kernel
theorem dX5_readProgram_2 : decode cX5_readProgram 2 = .ok (.putfield 30, 3) := by decide +kernel
theorem dX5_readProgram_5 : decode cX5_readProgram 5 = .ok (.aload_n 0, 1) := by decide +kernel
theorem dX5_readProgram_6 : decode cX5_readProgram 6 = .ok (.iconst 0, 1) := by decide +kernel
theorem dX5_readProgram_7 : decode cX5_readProgram 7 = .ok (.putfield 9, 3) := by decide +kernel
theorem dX5_readProgram_10 : decode cX5_readProgram 10 = .ok (.aload_n 0, 1) := by decide +kernel
theorem dX5_readProgram_11 : decode cX5_readProgram 11 = .ok (.iconst 0, 1) := by decide +kernel
theorem dX5_readProgram_12 : decode cX5_readProgram 12 = .ok (.putfield 15, 3) := by decide +kernel
theorem dX5_readProgram_15 : decode cX5_readProgram 15 = .ok (.aload_n 0, 1) := by decide +kernel
theorem dX5_readProgram_16 : decode cX5_readProgram 16 = .ok (.invokevirtual 34, 3) := by decide +kernel
theorem dX5_readProgram_19 : decode cX5_readProgram 19 = .ok (.aload_n 0, 1) := by decide +kernel
theorem dX5_readProgram_20 : decode cX5_readProgram 20 = .ok (.getfield 26, 3) := by decide +kernel
theorem dX5_readProgram_23 : decode cX5_readProgram 23 = .ok (.getfield 37, 3) := by decide +kernel
theorem dX5_readProgram_26 : decode cX5_readProgram 26 = .ok (.ifCond .ne 12, 3) := by decide +kernel
theorem dX5_readProgram_29 : decode cX5_readProgram 29 = .ok (.aload_n 0, 1) := by decide +kernel
theorem dX5_readProgram_30 : decode cX5_readProgram 30 = .ok (.iconst 1, 1) := by decide +kernel
theorem dX5_readProgram_31 : decode cX5_readProgram 31 = .ok (.putfield 9, 3) := by decide +kernel
theorem dX5_readProgram_34 : decode cX5_readProgram 34 = .ok (.aload_n 0, 1) := by decide +kernel
theorem dX5_readProgram_35 : decode cX5_readProgram 35 = .ok (.invokevirtual 34, 3) := by decide +kernel
theorem dX5_readProgram_38 : decode cX5_readProgram 38 = .ok (.return_, 1) := by decide +kernel
theorem dX5_readClauses_0 : decode cX5_readClauses 0 = .ok (.aload_n 0, 1) := by decide +kernel
theorem dX5_readClauses_1 : decode cX5_readClauses 1 = .ok (.getfield 30, 3) := by decide +kernel
theorem dX5_readClauses_4 : decode cX5_readClauses 4 = .ok (.invokevirtual 42, 3) := by decide +kernel
theorem dX5_readClauses_7 : decode cX5_readClauses 7 = .ok (.aload_n 0, 1) := by decide +kernel
theorem dX5_readClauses_8 : decode cX5_readClauses 8 = .ok (.getfield 26, 3) := by decide +kernel
theorem dX5_readClauses_11 : decode cX5_readClauses 11 = .ok (.invokevirtual 47, 3) := by decide +kernel
theorem dX5_readClauses_14 : decode cX5_readClauses 14 = .ok (.iconst 0, 1) := by decide +kernel
theorem dX5_readClauses_15 : decode cX5_readClauses 15 = .ok (.istore_n 1, 1) := by decide +kernel
theorem dX5_readClauses_16 : decode cX5_readClauses 16 = .ok (.iload_n 1, 1) := by decide +kernel
theorem dX5_readClauses_17 : decode cX5_readClauses 17 = .ok (.sipush 1000, 3) := by decide +kernel
theorem dX5_readClauses_20 : decode cX5_readClauses 20 = .ok (.if_icmp .ge 80, 3) := by decide +kernel
theorem dX5_readClauses_23 : decode cX5_readClauses 23 = .ok (.aload_n 0, 1) := by decide +kernel
theorem dX5_readClauses_24 : decode cX5_readClauses 24 = .ok (.getfield 26, 3) := by decide +kernel
theorem dX5_readClauses_27 : decode cX5_readClauses 27 = .ok (.getstatic 50, 3) := by decide +kernel
theorem dX5_readClauses_30 : decode cX5_readClauses 30 = .ok (.invokevirtual 56, 3) := by decide +kernel
theorem dX5_readClauses_33 : decode cX5_readClauses 33 = .ok (.ifCond .ne 67, 3) := by decide +kernel
theorem dX5_readClauses_36 : decode cX5_readClauses 36 = .ok (.aload_n 0, 1) := by decide +kernel
theorem dX5_readClauses_37 : decode cX5_readClauses 37 = .ok (.getfield 26, 3) := by decide +kernel
theorem dX5_readClauses_40 : decode cX5_readClauses 40 = .ok (.getstatic 60, 3) := by decide +kernel
theorem dX5_readClauses_43 : decode cX5_readClauses 43 = .ok (.invokevirtual 63, 3) := by decide +kernel
theorem dX5_readClauses_46 : decode cX5_readClauses 46 = .ok (.ifCond .eq 10, 3) := by decide +kernel
theorem dX5_readClauses_49 : decode cX5_readClauses 49 = .ok (.aload_n 0, 1) := by decide +kernel
theorem dX5_readClauses_50 : decode cX5_readClauses 50 = .ok (.invokevirtual 66, 3) := by decide +kernel
theorem dX5_readClauses_53 : decode cX5_readClauses 53 = .ok (.goto 31, 3) := by decide +kernel
theorem dX5_readClauses_56 : decode cX5_readClauses 56 = .ok (.aload_n 0, 1) := by decide +kernel
theorem dX5_readClauses_57 : decode cX5_readClauses 57 = .ok (.getfield 26, 3) := by decide +kernel
theorem dX5_readClauses_60 : decode cX5_readClauses 60 = .ok (.getstatic 69, 3) := by decide +kernel
theorem dX5_readClauses_63 : decode cX5_readClauses 63 = .ok (.invokevirtual 63, 3) := by decide +kernel
theorem dX5_readClauses_66 : decode cX5_readClauses 66 = .ok (.ifCond .eq 10, 3) := by decide +kernel
theorem dX5_readClauses_69 : decode cX5_readClauses 69 = .ok (.aload_n 0, 1) := by decide +kernel
theorem dX5_readClauses_70 : decode cX5_readClauses 70 = .ok (.invokevirtual 72, 3) := by decide +kernel
theorem dX5_readClauses_73 : decode cX5_readClauses 73 = .ok (.goto 11, 3) := by decide +kernel
theorem dX5_readClauses_76 : decode cX5_readClauses 76 = .ok (.aload_n 0, 1) := by decide +kernel
theorem dX5_readClauses_77 : decode cX5_readClauses 77 = .ok (.invokevirtual 75, 3) := by decide +kernel
theorem dX5_readClauses_80 : decode cX5_readClauses 80 = .ok (.aload_n 0, 1) := by decide +kernel
theorem dX5_readClauses_81 : decode cX5_readClauses 81 = .ok (.invokevirtual 78, 3) := by decide +kernel
theorem dX5_readClauses_84 : decode cX5_readClauses 84 = .ok (.aload_n 0, 1) := by decide +kernel
theorem dX5_readClauses_85 : decode cX5_readClauses 85 = .ok (.getfield 26, 3) := by decide +kernel
theorem dX5_readClauses_88 : decode cX5_readClauses 88 = .ok (.getstatic 81, 3) := by decide +kernel
theorem dX5_readClauses_91 : decode cX5_readClauses 91 = .ok (.invokevirtual 84, 3) := by decide +kernel
theorem dX5_readClauses_94 : decode cX5_readClauses 94 = .ok (.iinc 1 1, 3) := by decide +kernel
theorem dX5_readClauses_97 : decode cX5_readClauses 97 = .ok (.goto (-81), 3) := by decide +kernel
theorem dX5_readClauses_100 : decode cX5_readClauses 100 = .ok (.return_, 1) := by decide +kernel
theorem dX5_readEngine_0 : decode cX5_readEngine 0 = .ok (.aload_n 0, 1) := by decide +kernel
theorem dX5_readEngine_1 : decode cX5_readEngine 1 = .ok (.getfield 26, 3) := by decide +kernel
theorem dX5_readEngine_4 : decode cX5_readEngine 4 = .ok (.iconst 4, 1) := by decide +kernel
theorem dX5_readEngine_5 : decode cX5_readEngine 5 = .ok (.invokevirtual 88, 3) := by decide +kernel
theorem dX5_readEngine_8 : decode cX5_readEngine 8 = .ok (.ifCond .eq 28, 3) := by decide +kernel
theorem dX5_readEngine_11 : decode cX5_readEngine 11 = .ok (.aload_n 0, 1) := by decide +kernel
theorem dX5_readEngine_12 : decode cX5_readEngine 12 = .ok (.getfield 30, 3) := by decide +kernel
theorem dX5_readEngine_15 : decode cX5_readEngine 15 = .ok (.aload_n 0, 1) := by decide +kernel
theorem dX5_readEngine_16 : decode cX5_readEngine 16 = .ok (.getfield 26, 3) := by decide +kernel
theorem dX5_readEngine_19 : decode cX5_readEngine 19 = .ok (.invokevirtual 92, 3) := by decide +kernel
theorem dX5_readEngine_22 : decode cX5_readEngine 22 = .ok (.invokevirtual 96, 3) := by decide +kernel
theorem dX5_readEngine_25 : decode cX5_readEngine 25 = .ok (.ifCond .eq 11, 3) := by decide +kernel
theorem dX5_readEngine_28 : decode cX5_readEngine 28 = .ok (.aload_n 0, 1) := by decide +kernel
theorem dX5_readEngine_29 : decode cX5_readEngine 29 = .ok (.getfield 26, 3) := by decide +kernel
theorem dX5_readEngine_32 : decode cX5_readEngine 32 = .ok (.iconst 4, 1) := by decide +kernel
theorem dX5_readEngine_33 : decode cX5_readEngine 33 = .ok (.invokevirtual 99, 3) := by decide +kernel
theorem dX5_readEngine_36 : decode cX5_readEngine 36 = .ok (.aload_n 0, 1) := by decide +kernel
theorem dX5_readEngine_37 : decode cX5_readEngine 37 = .ok (.getfield 30, 3) := by decide +kernel
theorem dX5_readEngine_40 : decode cX5_readEngine 40 = .ok (.getfield 103, 3) := by decide +kernel
theorem dX5_readEngine_43 : decode cX5_readEngine 43 = .ok (.aload_n 0, 1) := by decide +kernel
theorem dX5_readEngine_44 : decode cX5_readEngine 44 = .ok (.getfield 26, 3) := by decide +kernel
theorem dX5_readEngine_47 : decode cX5_readEngine 47 = .ok (.iconst 0, 1) := by decide +kernel
theorem dX5_readEngine_48 : decode cX5_readEngine 48 = .ok (.iconst 3, 1) := by decide +kernel
theorem dX5_readEngine_49 : decode cX5_readEngine 49 = .ok (.invokevirtual 107, 3) := by decide +kernel
theorem dX5_readEngine_52 : decode cX5_readEngine 52 = .ok (.aaload, 1) := by decide +kernel
theorem dX5_readEngine_53 : decode cX5_readEngine 53 = .ok (.astore_n 1, 1) := by decide +kernel
theorem dX5_readEngine_54 : decode cX5_readEngine 54 = .ok (.aload_n 1, 1) := by decide +kernel
theorem dX5_readEngine_55 : decode cX5_readEngine 55 = .ok (.iconst 1, 1) := by decide +kernel
theorem dX5_readEngine_56 : decode cX5_readEngine 56 = .ok (.putfield 111, 3) := by decide +kernel
theorem dX5_readEngine_59 : decode cX5_readEngine 59 = .ok (.aload_n 0, 1) := by decide +kernel
theorem dX5_readEngine_60 : decode cX5_readEngine 60 = .ok (.getfield 26, 3) := by decide +kernel
theorem dX5_readEngine_63 : decode cX5_readEngine 63 = .ok (.getstatic 116, 3) := by decide +kernel
theorem dX5_readEngine_66 : decode cX5_readEngine 66 = .ok (.invokevirtual 84, 3) := by decide +kernel
theorem dX5_readEngine_69 : decode cX5_readEngine 69 = .ok (.aload_n 1, 1) := by decide +kernel
theorem dX5_readEngine_70 : decode cX5_readEngine 70 = .ok (.aload_n 0, 1) := by decide +kernel
theorem dX5_readEngine_71 : decode cX5_readEngine 71 = .ok (.invokevirtual 119, 3) := by decide +kernel
theorem dX5_readEngine_74 : decode cX5_readEngine 74 = .ok (.putfield 122, 3) := by decide +kernel
theorem dX5_readEngine_77 : decode cX5_readEngine 77 = .ok (.iconst 0, 1) := by decide +kernel
theorem dX5_readEngine_78 : decode cX5_readEngine 78 = .ok (.istore_n 2, 1) := by decide +kernel
theorem dX5_readEngine_79 : decode cX5_readEngine 79 = .ok (.iload_n 2, 1) := by decide +kernel
theorem dX5_readEngine_80 : decode cX5_readEngine 80 = .ok (.sipush 1000, 3) := by decide +kernel
theorem dX5_readEngine_83 : decode cX5_readEngine 83 = .ok (.if_icmp .ge 33, 3) := by decide +kernel
theorem dX5_readEngine_86 : decode cX5_readEngine 86 = .ok (.aload_n 0, 1) := by decide +kernel
theorem dX5_readEngine_87 : decode cX5_readEngine 87 = .ok (.getfield 26, 3) := by decide +kernel
theorem dX5_readEngine_90 : decode cX5_readEngine 90 = .ok (.iconst 2, 1) := by decide +kernel
theorem dX5_readEngine_91 : decode cX5_readEngine 91 = .ok (.invokevirtual 125, 3) := by decide +kernel
theorem dX5_readEngine_94 : decode cX5_readEngine 94 = .ok (.ifCond .eq 22, 3) := by decide +kernel
theorem dX5_readEngine_97 : decode cX5_readEngine 97 = .ok (.aload_n 0, 1) := by decide +kernel
theorem dX5_readEngine_98 : decode cX5_readEngine 98 = .ok (.aload_n 1, 1) := by decide +kernel
theorem dX5_readEngine_99 : decode cX5_readEngine 99 = .ok (.aload_n 0, 1) := by decide +kernel
theorem dX5_readEngine_100 : decode cX5_readEngine 100 = .ok (.getfield 26, 3) := by decide +kernel
theorem dX5_readEngine_103 : decode cX5_readEngine 103 = .ok (.iconst 2, 1) := by decide +kernel
theorem dX5_readEngine_104 : decode cX5_readEngine 104 = .ok (.invokevirtual 128, 3) := by decide +kernel
theorem dX5_readEngine_107 : decode cX5_readEngine 107 = .ok (.invokevirtual 132, 3) := by decide +kernel
theorem dX5_readEngine_110 : decode cX5_readEngine 110 = .ok (.iinc 2 1, 3) := by decide +kernel
theorem dX5_readEngine_113 : decode cX5_readEngine 113 = .ok (.goto (-34), 3) := by decide +kernel
theorem dX5_readEngine_116 : decode cX5_readEngine 116 = .ok (.return_, 1) := by decide +kernel
theorem dX5_readSetting_0 : decode cX5_readSetting 0 = .ok (.getstatic 136, 3) := by decide +kernel
theorem dX5_readSetting_3 : decode cX5_readSetting 3 = .ok (.aload_n 2, 1) := by decide +kernel
theorem dX5_readSetting_4 : decode cX5_readSetting 4 = .ok (.invokevirtual 141, 3) := by decide +kernel
theorem dX5_readSetting_7 : decode cX5_readSetting 7 = .ok (.iaload, 1) := by decide +kernel
theorem dX5_readSetting_8 : decode cX5_readSetting 8 = .ok (.tableswitch 200 27 33 #[44, 86, 105, 130, 154, 178, 189], 44) := by decide +kernel
theorem dX5_readSetting_52 : decode cX5_readSetting 52 = .ok (.aload_n 1, 1) := by decide +kernel
theorem dX5_readSetting_53 : decode cX5_readSetting 53 = .ok (.sipush 256, 3) := by decide +kernel
theorem dX5_readSetting_56 : decode cX5_readSetting 56 = .ok (.aload_n 0, 1) := by decide +kernel
theorem dX5_readSetting_57 : decode cX5_readSetting 57 = .ok (.getfield 26, 3) := by decide +kernel
theorem dX5_readSetting_60 : decode cX5_readSetting 60 = .ok (.iconst 1, 1) := by decide +kernel
theorem dX5_readSetting_61 : decode cX5_readSetting 61 = .ok (.sipush 255, 3) := by decide +kernel
theorem dX5_readSetting_64 : decode cX5_readSetting 64 = .ok (.invokevirtual 107, 3) := by decide +kernel
theorem dX5_readSetting_67 : decode cX5_readSetting 67 = .ok (.imul, 1) := by decide +kernel
theorem dX5_readSetting_68 : decode cX5_readSetting 68 = .ok (.putfield 144, 3) := by decide +kernel
theorem dX5_readSetting_71 : decode cX5_readSetting 71 = .ok (.aload_n 1, 1) := by decide +kernel
theorem dX5_readSetting_72 : decode cX5_readSetting 72 = .ok (.dup, 1) := by decide +kernel
theorem dX5_readSetting_73 : decode cX5_readSetting 73 = .ok (.getfield 144, 3) := by decide +kernel
theorem dX5_readSetting_76 : decode cX5_readSetting 76 = .ok (.aload_n 0, 1) := by decide +kernel
theorem dX5_readSetting_77 : decode cX5_readSetting 77 = .ok (.getfield 26, 3) := by decide +kernel
theorem dX5_readSetting_80 : decode cX5_readSetting 80 = .ok (.iconst 0, 1) := by decide +kernel
theorem dX5_readSetting_81 : decode cX5_readSetting 81 = .ok (.sipush 255, 3) := by decide +kernel
theorem dX5_readSetting_84 : decode cX5_readSetting 84 = .ok (.invokevirtual 107, 3) := by decide +kernel
theorem dX5_readSetting_87 : decode cX5_readSetting 87 = .ok (.iadd, 1) := by decide +kernel
theorem dX5_readSetting_88 : decode cX5_readSetting 88 = .ok (.putfield 144, 3) := by decide +kernel
theorem dX5_readSetting_91 : decode cX5_readSetting 91 = .ok (.goto 123, 3) := by decide +kernel
theorem dX5_readSetting_94 : decode cX5_readSetting 94 = .ok (.aload_n 1, 1) := by decide +kernel
theorem dX5_readSetting_95 : decode cX5_readSetting 95 = .ok (.aload_n 0, 1) := by decide +kernel
theorem dX5_readSetting_96 : decode cX5_readSetting 96 = .ok (.invokevirtual 119, 3) := by decide +kernel
theorem dX5_readSetting_99 : decode cX5_readSetting 99 = .ok (.putfield 147, 3) := by decide +kernel
theorem dX5_readSetting_102 : decode cX5_readSetting 102 = .ok (.aload_n 1, 1) := by decide +kernel
theorem dX5_readSetting_103 : decode cX5_readSetting 103 = .ok (.aload_n 0, 1) := by decide +kernel
theorem dX5_readSetting_104 : decode cX5_readSetting 104 = .ok (.invokevirtual 119, 3) := by decide +kernel
theorem dX5_readSetting_107 : decode cX5_readSetting 107 = .ok (.putfield 150, 3) := by decide +kernel
theorem dX5_readSetting_110 : decode cX5_readSetting 110 = .ok (.goto 104, 3) := by decide +kernel
theorem dX5_readSetting_113 : decode cX5_readSetting 113 = .ok (.aload_n 1, 1) := by decide +kernel
theorem dX5_readSetting_114 : decode cX5_readSetting 114 = .ok (.aload_n 0, 1) := by decide +kernel
theorem dX5_readSetting_115 : decode cX5_readSetting 115 = .ok (.invokevirtual 153, 3) := by decide +kernel
theorem dX5_readSetting_118 : decode cX5_readSetting 118 = .ok (.putfield 156, 3) := by decide +kernel
theorem dX5_readSetting_121 : decode cX5_readSetting 121 = .ok (.aload_n 1, 1) := by decide +kernel
theorem dX5_readSetting_122 : decode cX5_readSetting 122 = .ok (.aload_n 0, 1) := by decide +kernel
theorem dX5_readSetting_123 : decode cX5_readSetting 123 = .ok (.aload_n 1, 1) := by decide +kernel
theorem dX5_readSetting_124 : decode cX5_readSetting 124 = .ok (.getfield 156, 3) := by decide +kernel
theorem dX5_readSetting_127 : decode cX5_readSetting 127 = .ok (.bipush 16, 2) := by decide +kernel
theorem dX5_readSetting_129 : decode cX5_readSetting 129 = .ok (.invokevirtual 159, 3) := by decide +kernel
theorem dX5_readSetting_132 : decode cX5_readSetting 132 = .ok (.putfield 162, 3) := by decide +kernel
theorem dX5_readSetting_135 : decode cX5_readSetting 135 = .ok (.goto 79, 3) := by decide +kernel
theorem dX5_readSetting_138 : decode cX5_readSetting 138 = .ok (.aload_n 1, 1) := by decide +kernel
theorem dX5_readSetting_139 : decode cX5_readSetting 139 = .ok (.aload_n 0, 1) := by decide +kernel
theorem dX5_readSetting_140 : decode cX5_readSetting 140 = .ok (.invokevirtual 153, 3) := by decide +kernel
theorem dX5_readSetting_143 : decode cX5_readSetting 143 = .ok (.putfield 165, 3) := by decide +kernel
theorem dX5_readSetting_146 : decode cX5_readSetting 146 = .ok (.aload_n 1, 1) := by decide +kernel
theorem dX5_readSetting_147 : decode cX5_readSetting 147 = .ok (.aload_n 0, 1) := by decide +kernel
theorem dX5_readSetting_148 : decode cX5_readSetting 148 = .ok (.aload_n 1, 1) := by decide +kernel
theorem dX5_readSetting_149 : decode cX5_readSetting 149 = .ok (.getfield 165, 3) := by decide +kernel
theorem dX5_readSetting_152 : decode cX5_readSetting 152 = .ok (.iconst 5, 1) := by decide +kernel
theorem dX5_readSetting_153 : decode cX5_readSetting 153 = .ok (.invokevirtual 159, 3) := by decide +kernel
theorem dX5_readSetting_156 : decode cX5_readSetting 156 = .ok (.putfield 168, 3) := by decide +kernel
theorem dX5_readSetting_159 : decode cX5_readSetting 159 = .ok (.goto 55, 3) := by decide +kernel
theorem dX5_readSetting_162 : decode cX5_readSetting 162 = .ok (.aload_n 1, 1) := by decide +kernel
theorem dX5_readSetting_163 : decode cX5_readSetting 163 = .ok (.aload_n 0, 1) := by decide +kernel
theorem dX5_readSetting_164 : decode cX5_readSetting 164 = .ok (.invokevirtual 153, 3) := by decide +kernel
theorem dX5_readSetting_167 : decode cX5_readSetting 167 = .ok (.putfield 171, 3) := by decide +kernel
theorem dX5_readSetting_170 : decode cX5_readSetting 170 = .ok (.aload_n 1, 1) := by decide +kernel
theorem dX5_readSetting_171 : decode cX5_readSetting 171 = .ok (.aload_n 0, 1) := by decide +kernel
theorem dX5_readSetting_172 : decode cX5_readSetting 172 = .ok (.aload_n 1, 1) := by decide +kernel
theorem dX5_readSetting_173 : decode cX5_readSetting 173 = .ok (.getfield 171, 3) := by decide +kernel
theorem dX5_readSetting_176 : decode cX5_readSetting 176 = .ok (.iconst 4, 1) := by decide +kernel
theorem dX5_readSetting_177 : decode cX5_readSetting 177 = .ok (.invokevirtual 159, 3) := by decide +kernel
theorem dX5_readSetting_180 : decode cX5_readSetting 180 = .ok (.putfield 174, 3) := by decide +kernel
theorem dX5_readSetting_183 : decode cX5_readSetting 183 = .ok (.goto 31, 3) := by decide +kernel
theorem dX5_readSetting_186 : decode cX5_readSetting 186 = .ok (.aload_n 1, 1) := by decide +kernel
theorem dX5_readSetting_187 : decode cX5_readSetting 187 = .ok (.aload_n 0, 1) := by decide +kernel
theorem dX5_readSetting_188 : decode cX5_readSetting 188 = .ok (.invokevirtual 153, 3) := by decide +kernel
theorem dX5_readSetting_191 : decode cX5_readSetting 191 = .ok (.putfield 177, 3) := by decide +kernel
theorem dX5_readSetting_194 : decode cX5_readSetting 194 = .ok (.goto 20, 3) := by decide +kernel
theorem dX5_readSetting_197 : decode cX5_readSetting 197 = .ok (.aload_n 1, 1) := by decide +kernel
theorem dX5_readSetting_198 : decode cX5_readSetting 198 = .ok (.aload_n 0, 1) := by decide +kernel
theorem dX5_readSetting_199 : decode cX5_readSetting 199 = .ok (.invokevirtual 153, 3) := by decide +kernel
theorem dX5_readSetting_202 : decode cX5_readSetting 202 = .ok (.putfield 180, 3) := by decide +kernel
theorem dX5_readSetting_205 : decode cX5_readSetting 205 = .ok (.goto 9, 3) := by decide +kernel
theorem dX5_readSetting_208 : decode cX5_readSetting 208 = .ok (.aload_n 0, 1) := by decide +kernel
theorem dX5_readSetting_209 : decode cX5_readSetting 209 = .ok (.aload_n 1, 1) := by decide +kernel
theorem dX5_readSetting_210 : decode cX5_readSetting 210 = .ok (.aload_n 2, 1) := by decide +kernel
theorem dX5_readSetting_211 : decode cX5_readSetting 211 = .ok (.invokevirtual 183, 3) := by decide +kernel
theorem dX5_readSetting_214 : decode cX5_readSetting 214 = .ok (.return_, 1) := by decide +kernel
theorem dX5_readShifting_0 : decode cX5_readShifting 0 = .ok (.getstatic 136, 3) := by decide +kernel
theorem dX5_readShifting_3 : decode cX5_readShifting 3 = .ok (.aload_n 2, 1) := by decide +kernel
theorem dX5_readShifting_4 : decode cX5_readShifting 4 = .ok (.invokevirtual 141, 3) := by decide +kernel
theorem dX5_readShifting_7 : decode cX5_readShifting 7 = .ok (.iaload, 1) := by decide +kernel
theorem dX5_readShifting_8 : decode cX5_readShifting 8 = .ok (.tableswitch 117 34 39 #[40, 48, 56, 78, 100, 109], 40) := by decide +kernel
theorem dX5_readShifting_48 : decode cX5_readShifting 48 = .ok (.aload_n 1, 1) := by decide +kernel
theorem dX5_readShifting_49 : decode cX5_readShifting 49 = .ok (.iconst 1, 1) := by decide +kernel
theorem dX5_readShifting_50 : decode cX5_readShifting 50 = .ok (.putfield 186, 3) := by decide +kernel
theorem dX5_readShifting_53 : decode cX5_readShifting 53 = .ok (.goto 72, 3) := by decide +kernel
theorem dX5_readShifting_56 : decode cX5_readShifting 56 = .ok (.aload_n 1, 1) := by decide +kernel
theorem dX5_readShifting_57 : decode cX5_readShifting 57 = .ok (.iconst 1, 1) := by decide +kernel
theorem dX5_readShifting_58 : decode cX5_readShifting 58 = .ok (.putfield 189, 3) := by decide +kernel
theorem dX5_readShifting_61 : decode cX5_readShifting 61 = .ok (.goto 64, 3) := by decide +kernel
theorem dX5_readShifting_64 : decode cX5_readShifting 64 = .ok (.aload_n 1, 1) := by decide +kernel
theorem dX5_readShifting_65 : decode cX5_readShifting 65 = .ok (.iconst 1, 1) := by decide +kernel
theorem dX5_readShifting_66 : decode cX5_readShifting 66 = .ok (.putfield 192, 3) := by decide +kernel
theorem dX5_readShifting_69 : decode cX5_readShifting 69 = .ok (.aload_n 1, 1) := by decide +kernel
theorem dX5_readShifting_70 : decode cX5_readShifting 70 = .ok (.aload_n 0, 1) := by decide +kernel
theorem dX5_readShifting_71 : decode cX5_readShifting 71 = .ok (.getfield 26, 3) := by decide +kernel
theorem dX5_readShifting_74 : decode cX5_readShifting 74 = .ok (.iconst 1, 1) := by decide +kernel
theorem dX5_readShifting_75 : decode cX5_readShifting 75 = .ok (.bipush 32, 2) := by decide +kernel
theorem dX5_readShifting_77 : decode cX5_readShifting 77 = .ok (.invokevirtual 107, 3) := by decide +kernel
theorem dX5_readShifting_80 : decode cX5_readShifting 80 = .ok (.putfield 195, 3) := by decide +kernel
theorem dX5_readShifting_83 : decode cX5_readShifting 83 = .ok (.goto 42, 3) := by decide +kernel
theorem dX5_readShifting_86 : decode cX5_readShifting 86 = .ok (.aload_n 1, 1) := by decide +kernel
theorem dX5_readShifting_87 : decode cX5_readShifting 87 = .ok (.iconst 1, 1) := by decide +kernel
theorem dX5_readShifting_88 : decode cX5_readShifting 88 = .ok (.putfield 198, 3) := by decide +kernel
theorem dX5_readShifting_91 : decode cX5_readShifting 91 = .ok (.aload_n 1, 1) := by decide +kernel
theorem dX5_readShifting_92 : decode cX5_readShifting 92 = .ok (.aload_n 0, 1) := by decide +kernel
theorem dX5_readShifting_93 : decode cX5_readShifting 93 = .ok (.getfield 26, 3) := by decide +kernel
theorem dX5_readShifting_96 : decode cX5_readShifting 96 = .ok (.iconst 1, 1) := by decide +kernel
theorem dX5_readShifting_97 : decode cX5_readShifting 97 = .ok (.bipush 32, 2) := by decide +kernel
theorem dX5_readShifting_99 : decode cX5_readShifting 99 = .ok (.invokevirtual 107, 3) := by decide +kernel
theorem dX5_readShifting_102 : decode cX5_readShifting 102 = .ok (.putfield 201, 3) := by decide +kernel
theorem dX5_readShifting_105 : decode cX5_readShifting 105 = .ok (.goto 20, 3) := by decide +kernel
theorem dX5_readShifting_108 : decode cX5_readShifting 108 = .ok (.aload_n 1, 1) := by decide +kernel
theorem dX5_readShifting_109 : decode cX5_readShifting 109 = .ok (.bipush 8, 2) := by decide +kernel
theorem dX5_readShifting_111 : decode cX5_readShifting 111 = .ok (.putfield 204, 3) := by decide +kernel
theorem dX5_readShifting_114 : decode cX5_readShifting 114 = .ok (.goto 11, 3) := by decide +kernel
theorem dX5_readShifting_117 : decode cX5_readShifting 117 = .ok (.aload_n 1, 1) := by decide +kernel
theorem dX5_readShifting_118 : decode cX5_readShifting 118 = .ok (.iconst 0, 1) := by decide +kernel
theorem dX5_readShifting_119 : decode cX5_readShifting 119 = .ok (.putfield 204, 3) := by decide +kernel
theorem dX5_readShifting_122 : decode cX5_readShifting 122 = .ok (.goto 3, 3) := by decide +kernel
theorem dX5_readShifting_125 : decode cX5_readShifting 125 = .ok (.return_, 1) := by decide +kernel
theorem dX5_readLevel_0 : decode cX5_readLevel 0 = .ok (.aload_n 0, 1) := by decide +kernel
theorem dX5_readLevel_1 : decode cX5_readLevel 1 = .ok (.invokevirtual 153, 3) := by decide +kernel
theorem dX5_readLevel_4 : decode cX5_readLevel 4 = .ok (.istore_n 1, 1) := by decide +kernel
theorem dX5_readLevel_5 : decode cX5_readLevel 5 = .ok (.aload_n 0, 1) := by decide +kernel
theorem dX5_readLevel_6 : decode cX5_readLevel 6 = .ok (.getfield 26, 3) := by decide +kernel
theorem dX5_readLevel_9 : decode cX5_readLevel 9 = .ok (.iconst 0, 1) := by decide +kernel
theorem dX5_readLevel_10 : decode cX5_readLevel 10 = .ok (.iconst 1, 1) := by decide +kernel
theorem dX5_readLevel_11 : decode cX5_readLevel 11 = .ok (.invokevirtual 107, 3) := by decide +kernel
theorem dX5_readLevel_14 : decode cX5_readLevel 14 = .ok (.istore_n 2, 1) := by decide +kernel
theorem dX5_readLevel_15 : decode cX5_readLevel 15 = .ok (.aload_n 0, 1) := by decide +kernel
theorem dX5_readLevel_16 : decode cX5_readLevel 16 = .ok (.getfield 30, 3) := by decide +kernel
theorem dX5_readLevel_19 : decode cX5_readLevel 19 = .ok (.aload_n 0, 1) := by decide +kernel
theorem dX5_readLevel_20 : decode cX5_readLevel 20 = .ok (.getfield 30, 3) := by decide +kernel
theorem dX5_readLevel_23 : decode cX5_readLevel 23 = .ok (.getfield 207, 3) := by decide +kernel
theorem dX5_readLevel_26 : decode cX5_readLevel 26 = .ok (.iconst 1, 1) := by decide +kernel
theorem dX5_readLevel_27 : decode cX5_readLevel 27 = .ok (.iload_n 1, 1) := by decide +kernel
theorem dX5_readLevel_28 : decode cX5_readLevel 28 = .ok (.ishl, 1) := by decide +kernel
theorem dX5_readLevel_29 : decode cX5_readLevel 29 = .ok (.iconst (-1), 1) := by decide +kernel
theorem dX5_readLevel_30 : decode cX5_readLevel 30 = .ok (.ixor, 1) := by decide +kernel
theorem dX5_readLevel_31 : decode cX5_readLevel 31 = .ok (.iand, 1) := by decide +kernel
theorem dX5_readLevel_32 : decode cX5_readLevel 32 = .ok (.iload_n 2, 1) := by decide +kernel
theorem dX5_readLevel_33 : decode cX5_readLevel 33 = .ok (.iload_n 1, 1) := by decide +kernel
theorem dX5_readLevel_34 : decode cX5_readLevel 34 = .ok (.ishl, 1) := by decide +kernel
theorem dX5_readLevel_35 : decode cX5_readLevel 35 = .ok (.ior, 1) := by decide +kernel
theorem dX5_readLevel_36 : decode cX5_readLevel 36 = .ok (.putfield 207, 3) := by decide +kernel
theorem dX5_readLevel_39 : decode cX5_readLevel 39 = .ok (.return_, 1) := by decide +kernel
theorem dX5_readLabel_0 : decode cX5_readLabel 0 = .ok (.aload_n 0, 1) := by decide +kernel
theorem dX5_readLabel_1 : decode cX5_readLabel 1 = .ok (.getfield 26, 3) := by decide +kernel
theorem dX5_readLabel_4 : decode cX5_readLabel 4 = .ok (.getstatic 210, 3) := by decide +kernel
theorem dX5_readLabel_7 : decode cX5_readLabel 7 = .ok (.invokevirtual 56, 3) := by decide +kernel
theorem dX5_readLabel_10 : decode cX5_readLabel 10 = .ok (.ifCond .ne 4, 3) := by decide +kernel
theorem dX5_readLabel_13 : decode cX5_readLabel 13 = .ok (.return_, 1) := by decide +kernel
theorem dX5_readLabel_14 : decode cX5_readLabel 14 = .ok (.aload_n 0, 1) := by decide +kernel
theorem dX5_readLabel_15 : decode cX5_readLabel 15 = .ok (.getfield 9, 3) := by decide +kernel
theorem dX5_readLabel_18 : decode cX5_readLabel 18 = .ok (.ifCond .ne 7, 3) := by decide +kernel
theorem dX5_readLabel_21 : decode cX5_readLabel 21 = .ok (.aload_n 0, 1) := by decide +kernel
theorem dX5_readLabel_22 : decode cX5_readLabel 22 = .ok (.invokevirtual 213, 3) := by decide +kernel
theorem dX5_readLabel_25 : decode cX5_readLabel 25 = .ok (.aload_n 0, 1) := by decide +kernel
theorem dX5_readLabel_26 : decode cX5_readLabel 26 = .ok (.getfield 26, 3) := by decide +kernel
theorem dX5_readLabel_29 : decode cX5_readLabel 29 = .ok (.getstatic 210, 3) := by decide +kernel
theorem dX5_readLabel_32 : decode cX5_readLabel 32 = .ok (.invokevirtual 63, 3) := by decide +kernel
theorem dX5_readLabel_35 : decode cX5_readLabel 35 = .ok (.pop, 1) := by decide +kernel
theorem dX5_readLabel_36 : decode cX5_readLabel 36 = .ok (.aload_n 0, 1) := by decide +kernel
theorem dX5_readLabel_37 : decode cX5_readLabel 37 = .ok (.getfield 26, 3) := by decide +kernel
theorem dX5_readLabel_40 : decode cX5_readLabel 40 = .ok (.getstatic 216, 3) := by decide +kernel
theorem dX5_readLabel_43 : decode cX5_readLabel 43 = .ok (.invokevirtual 84, 3) := by decide +kernel
theorem dX5_readLabel_46 : decode cX5_readLabel 46 = .ok (.return_, 1) := by decide +kernel
theorem dX5_defineLabel_0 : decode cX5_defineLabel 0 = .ok (.aload_n 0, 1) := by decide +kernel
theorem dX5_defineLabel_1 : decode cX5_defineLabel 1 = .ok (.invokevirtual 219, 3) := by decide +kernel
theorem dX5_defineLabel_4 : decode cX5_defineLabel 4 = .ok (.iconst (-1), 1) := by decide +kernel
theorem dX5_defineLabel_5 : decode cX5_defineLabel 5 = .ok (.if_icmp .eq 14, 3) := by decide +kernel
theorem dX5_defineLabel_8 : decode cX5_defineLabel 8 = .ok (.aload_n 0, 1) := by decide +kernel
theorem dX5_defineLabel_9 : decode cX5_defineLabel 9 = .ok (.getfield 26, 3) := by decide +kernel
theorem dX5_defineLabel_12 : decode cX5_defineLabel 12 = .ok (.iconst 4, 1) := by decide +kernel
theorem dX5_defineLabel_13 : decode cX5_defineLabel 13 = .ok (.invokevirtual 99, 3) := by decide +kernel
theorem dX5_defineLabel_16 : decode cX5_defineLabel 16 = .ok (.goto 54, 3) := by decide +kernel
theorem dX5_defineLabel_19 : decode cX5_defineLabel 19 = .ok (.aload_n 0, 1) := by decide +kernel
theorem dX5_defineLabel_20 : decode cX5_defineLabel 20 = .ok (.getfield 15, 3) := by decide +kernel
theorem dX5_defineLabel_23 : decode cX5_defineLabel 23 = .ok (.bipush 32, 2) := by decide +kernel
theorem dX5_defineLabel_25 : decode cX5_defineLabel 25 = .ok (.if_icmp .ge 45, 3) := by decide +kernel
theorem dX5_defineLabel_28 : decode cX5_defineLabel 28 = .ok (.aload_n 0, 1) := by decide +kernel
theorem dX5_defineLabel_29 : decode cX5_defineLabel 29 = .ok (.getfield 19, 3) := by decide +kernel
theorem dX5_defineLabel_32 : decode cX5_defineLabel 32 = .ok (.aload_n 0, 1) := by decide +kernel
theorem dX5_defineLabel_33 : decode cX5_defineLabel 33 = .ok (.getfield 15, 3) := by decide +kernel
theorem dX5_defineLabel_36 : decode cX5_defineLabel 36 = .ok (.aload_n 0, 1) := by decide +kernel
theorem dX5_defineLabel_37 : decode cX5_defineLabel 37 = .ok (.getfield 26, 3) := by decide +kernel
theorem dX5_defineLabel_40 : decode cX5_defineLabel 40 = .ok (.getfield 222, 3) := by decide +kernel
theorem dX5_defineLabel_43 : decode cX5_defineLabel 43 = .ok (.iastore, 1) := by decide +kernel
theorem dX5_defineLabel_44 : decode cX5_defineLabel 44 = .ok (.aload_n 0, 1) := by decide +kernel
theorem dX5_defineLabel_45 : decode cX5_defineLabel 45 = .ok (.getfield 23, 3) := by decide +kernel
theorem dX5_defineLabel_48 : decode cX5_defineLabel 48 = .ok (.aload_n 0, 1) := by decide +kernel
theorem dX5_defineLabel_49 : decode cX5_defineLabel 49 = .ok (.getfield 15, 3) := by decide +kernel
theorem dX5_defineLabel_52 : decode cX5_defineLabel 52 = .ok (.aload_n 0, 1) := by decide +kernel
theorem dX5_defineLabel_53 : decode cX5_defineLabel 53 = .ok (.getfield 30, 3) := by decide +kernel
theorem dX5_defineLabel_56 : decode cX5_defineLabel 56 = .ok (.getfield 225, 3) := by decide +kernel
theorem dX5_defineLabel_59 : decode cX5_defineLabel 59 = .ok (.iastore, 1) := by decide +kernel
theorem dX5_defineLabel_60 : decode cX5_defineLabel 60 = .ok (.aload_n 0, 1) := by decide +kernel
theorem dX5_defineLabel_61 : decode cX5_defineLabel 61 = .ok (.dup, 1) := by decide +kernel
theorem dX5_defineLabel_62 : decode cX5_defineLabel 62 = .ok (.getfield 15, 3) := by decide +kernel
theorem dX5_defineLabel_65 : decode cX5_defineLabel 65 = .ok (.iconst 1, 1) := by decide +kernel
theorem dX5_defineLabel_66 : decode cX5_defineLabel 66 = .ok (.iadd, 1) := by decide +kernel
theorem dX5_defineLabel_67 : decode cX5_defineLabel 67 = .ok (.putfield 15, 3) := by decide +kernel
theorem dX5_defineLabel_70 : decode cX5_defineLabel 70 = .ok (.return_, 1) := by decide +kernel
theorem dX5_labelAddress_0 : decode cX5_labelAddress 0 = .ok (.iconst 0, 1) := by decide +kernel
theorem dX5_labelAddress_1 : decode cX5_labelAddress 1 = .ok (.istore_n 1, 1) := by decide +kernel
theorem dX5_labelAddress_2 : decode cX5_labelAddress 2 = .ok (.iload_n 1, 1) := by decide +kernel
theorem dX5_labelAddress_3 : decode cX5_labelAddress 3 = .ok (.aload_n 0, 1) := by decide +kernel
theorem dX5_labelAddress_4 : decode cX5_labelAddress 4 = .ok (.getfield 15, 3) := by decide +kernel
theorem dX5_labelAddress_7 : decode cX5_labelAddress 7 = .ok (.if_icmp .ge 32, 3) := by decide +kernel
theorem dX5_labelAddress_10 : decode cX5_labelAddress 10 = .ok (.aload_n 0, 1) := by decide +kernel
theorem dX5_labelAddress_11 : decode cX5_labelAddress 11 = .ok (.getfield 26, 3) := by decide +kernel
theorem dX5_labelAddress_14 : decode cX5_labelAddress 14 = .ok (.aload_n 0, 1) := by decide +kernel
theorem dX5_labelAddress_15 : decode cX5_labelAddress 15 = .ok (.getfield 19, 3) := by decide +kernel
theorem dX5_labelAddress_18 : decode cX5_labelAddress 18 = .ok (.iload_n 1, 1) := by decide +kernel
theorem dX5_labelAddress_19 : decode cX5_labelAddress 19 = .ok (.iaload, 1) := by decide +kernel
theorem dX5_labelAddress_20 : decode cX5_labelAddress 20 = .ok (.invokevirtual 228, 3) := by decide +kernel
theorem dX5_labelAddress_23 : decode cX5_labelAddress 23 = .ok (.ifCond .eq 10, 3) := by decide +kernel
theorem dX5_labelAddress_26 : decode cX5_labelAddress 26 = .ok (.aload_n 0, 1) := by decide +kernel
theorem dX5_labelAddress_27 : decode cX5_labelAddress 27 = .ok (.getfield 23, 3) := by decide +kernel
theorem dX5_labelAddress_30 : decode cX5_labelAddress 30 = .ok (.iload_n 1, 1) := by decide +kernel
theorem dX5_labelAddress_31 : decode cX5_labelAddress 31 = .ok (.iaload, 1) := by decide +kernel
theorem dX5_labelAddress_32 : decode cX5_labelAddress 32 = .ok (.ireturn, 1) := by decide +kernel
theorem dX5_labelAddress_33 : decode cX5_labelAddress 33 = .ok (.iinc 1 1, 3) := by decide +kernel
theorem dX5_labelAddress_36 : decode cX5_labelAddress 36 = .ok (.goto (-34), 3) := by decide +kernel
theorem dX5_labelAddress_39 : decode cX5_labelAddress 39 = .ok (.iconst (-1), 1) := by decide +kernel
theorem dX5_labelAddress_40 : decode cX5_labelAddress 40 = .ok (.ireturn, 1) := by decide +kernel
theorem dX5_readInstruction_0 : decode cX5_readInstruction 0 = .ok (.aload_n 0, 1) := by decide +kernel
theorem dX5_readInstruction_1 : decode cX5_readInstruction 1 = .ok (.getfield 26, 3) := by decide +kernel
theorem dX5_readInstruction_4 : decode cX5_readInstruction 4 = .ok (.iconst 1, 1) := by decide +kernel
theorem dX5_readInstruction_5 : decode cX5_readInstruction 5 = .ok (.invokevirtual 125, 3) := by decide +kernel
theorem dX5_readInstruction_8 : decode cX5_readInstruction 8 = .ok (.ifCond .eq 21, 3) := by decide +kernel
theorem dX5_readInstruction_11 : decode cX5_readInstruction 11 = .ok (.aload_n 0, 1) := by decide +kernel
theorem dX5_readInstruction_12 : decode cX5_readInstruction 12 = .ok (.getfield 30, 3) := by decide +kernel
theorem dX5_readInstruction_15 : decode cX5_readInstruction 15 = .ok (.invokevirtual 231, 3) := by decide +kernel
theorem dX5_readInstruction_18 : decode cX5_readInstruction 18 = .ok (.ifCond .eq 11, 3) := by decide +kernel
theorem dX5_readInstruction_21 : decode cX5_readInstruction 21 = .ok (.aload_n 0, 1) := by decide +kernel
theorem dX5_readInstruction_22 : decode cX5_readInstruction 22 = .ok (.getfield 26, 3) := by decide +kernel
theorem dX5_readInstruction_25 : decode cX5_readInstruction 25 = .ok (.iconst 3, 1) := by decide +kernel
theorem dX5_readInstruction_26 : decode cX5_readInstruction 26 = .ok (.invokevirtual 99, 3) := by decide +kernel
theorem dX5_readInstruction_29 : decode cX5_readInstruction 29 = .ok (.aload_n 0, 1) := by decide +kernel
theorem dX5_readInstruction_30 : decode cX5_readInstruction 30 = .ok (.getfield 30, 3) := by decide +kernel
theorem dX5_readInstruction_33 : decode cX5_readInstruction 33 = .ok (.aload_n 0, 1) := by decide +kernel
theorem dX5_readInstruction_34 : decode cX5_readInstruction 34 = .ok (.getfield 26, 3) := by decide +kernel
theorem dX5_readInstruction_37 : decode cX5_readInstruction 37 = .ok (.iconst 1, 1) := by decide +kernel
theorem dX5_readInstruction_38 : decode cX5_readInstruction 38 = .ok (.invokevirtual 128, 3) := by decide +kernel
theorem dX5_readInstruction_41 : decode cX5_readInstruction 41 = .ok (.invokevirtual 235, 3) := by decide +kernel
theorem dX5_readInstruction_44 : decode cX5_readInstruction 44 = .ok (.astore_n 1, 1) := by decide +kernel
theorem dX5_readInstruction_45 : decode cX5_readInstruction 45 = .ok (.aload_n 0, 1) := by decide +kernel
theorem dX5_readInstruction_46 : decode cX5_readInstruction 46 = .ok (.aload_n 1, 1) := by decide +kernel
theorem dX5_readInstruction_47 : decode cX5_readInstruction 47 = .ok (.invokevirtual 239, 3) := by decide +kernel
theorem dX5_readInstruction_50 : decode cX5_readInstruction 50 = .ok (.aload_n 0, 1) := by decide +kernel
theorem dX5_readInstruction_51 : decode cX5_readInstruction 51 = .ok (.getfield 26, 3) := by decide +kernel
theorem dX5_readInstruction_54 : decode cX5_readInstruction 54 = .ok (.getstatic 243, 3) := by decide +kernel
theorem dX5_readInstruction_57 : decode cX5_readInstruction 57 = .ok (.invokevirtual 63, 3) := by decide +kernel
theorem dX5_readInstruction_60 : decode cX5_readInstruction 60 = .ok (.ifCond .eq 17, 3) := by decide +kernel
theorem dX5_readInstruction_63 : decode cX5_readInstruction 63 = .ok (.aload_n 1, 1) := by decide +kernel
theorem dX5_readInstruction_64 : decode cX5_readInstruction 64 = .ok (.aload_n 0, 1) := by decide +kernel
theorem dX5_readInstruction_65 : decode cX5_readInstruction 65 = .ok (.getfield 26, 3) := by decide +kernel
theorem dX5_readInstruction_68 : decode cX5_readInstruction 68 = .ok (.iconst 0, 1) := by decide +kernel
theorem dX5_readInstruction_69 : decode cX5_readInstruction 69 = .ok (.bipush 15, 2) := by decide +kernel
theorem dX5_readInstruction_71 : decode cX5_readInstruction 71 = .ok (.invokevirtual 107, 3) := by decide +kernel
theorem dX5_readInstruction_74 : decode cX5_readInstruction 74 = .ok (.putfield 246, 3) := by decide +kernel
theorem dX5_readInstruction_77 : decode cX5_readInstruction 77 = .ok (.aload_n 0, 1) := by decide +kernel
theorem dX5_readInstruction_78 : decode cX5_readInstruction 78 = .ok (.getfield 26, 3) := by decide +kernel
theorem dX5_readInstruction_81 : decode cX5_readInstruction 81 = .ok (.getstatic 251, 3) := by decide +kernel
theorem dX5_readInstruction_84 : decode cX5_readInstruction 84 = .ok (.invokevirtual 63, 3) := by decide +kernel
theorem dX5_readInstruction_87 : decode cX5_readInstruction 87 = .ok (.ifCond .eq 17, 3) := by decide +kernel
theorem dX5_readInstruction_90 : decode cX5_readInstruction 90 = .ok (.aload_n 1, 1) := by decide +kernel
theorem dX5_readInstruction_91 : decode cX5_readInstruction 91 = .ok (.aload_n 0, 1) := by decide +kernel
theorem dX5_readInstruction_92 : decode cX5_readInstruction 92 = .ok (.getfield 26, 3) := by decide +kernel
theorem dX5_readInstruction_95 : decode cX5_readInstruction 95 = .ok (.iconst 0, 1) := by decide +kernel
theorem dX5_readInstruction_96 : decode cX5_readInstruction 96 = .ok (.bipush 31, 2) := by decide +kernel
theorem dX5_readInstruction_98 : decode cX5_readInstruction 98 = .ok (.invokevirtual 107, 3) := by decide +kernel
theorem dX5_readInstruction_101 : decode cX5_readInstruction 101 = .ok (.putfield 254, 3) := by decide +kernel
theorem dX5_readInstruction_104 : decode cX5_readInstruction 104 = .ok (.return_, 1) := by decide +kernel
theorem dX5_readOperands_0 : decode cX5_readOperands 0 = .ok (.getstatic 136, 3) := by decide +kernel
theorem dX5_readOperands_3 : decode cX5_readOperands 3 = .ok (.aload_n 1, 1) := by decide +kernel
theorem dX5_readOperands_4 : decode cX5_readOperands 4 = .ok (.getfield 257, 3) := by decide +kernel
theorem dX5_readOperands_7 : decode cX5_readOperands 7 = .ok (.invokevirtual 141, 3) := by decide +kernel
theorem dX5_readOperands_10 : decode cX5_readOperands 10 = .ok (.iaload, 1) := by decide +kernel
theorem dX5_readOperands_11 : decode cX5_readOperands 11 = .ok (.lookupswitch 367 #[(1, 89), (2, 112), (3, 166), (4, 196), (5, 226), (6, 237), (7, 248), (11, 292), (40, 323), (41, 345)], 89) := by decide +kernel
theorem dX5_readOperands_100 : decode cX5_readOperands 100 = .ok (.aload_n 1, 1) := by decide +kernel
theorem dX5_readOperands_101 : decode cX5_readOperands 101 = .ok (.aload_n 0, 1) := by decide +kernel
theorem dX5_readOperands_102 : decode cX5_readOperands 102 = .ok (.getfield 26, 3) := by decide +kernel
theorem dX5_readOperands_105 : decode cX5_readOperands 105 = .ok (.iconst 4, 1) := by decide +kernel
theorem dX5_readOperands_106 : decode cX5_readOperands 106 = .ok (.invokevirtual 260, 3) := by decide +kernel
theorem dX5_readOperands_109 : decode cX5_readOperands 109 = .ok (.putfield 263, 3) := by decide +kernel
theorem dX5_readOperands_112 : decode cX5_readOperands 112 = .ok (.aload_n 1, 1) := by decide +kernel
theorem dX5_readOperands_113 : decode cX5_readOperands 113 = .ok (.aload_n 0, 1) := by decide +kernel
theorem dX5_readOperands_114 : decode cX5_readOperands 114 = .ok (.invokevirtual 119, 3) := by decide +kernel
theorem dX5_readOperands_117 : decode cX5_readOperands 117 = .ok (.putfield 266, 3) := by decide +kernel
theorem dX5_readOperands_120 : decode cX5_readOperands 120 = .ok (.goto 266, 3) := by decide +kernel
theorem dX5_readOperands_123 : decode cX5_readOperands 123 = .ok (.aload_n 1, 1) := by decide +kernel
theorem dX5_readOperands_124 : decode cX5_readOperands 124 = .ok (.aload_n 0, 1) := by decide +kernel
theorem dX5_readOperands_125 : decode cX5_readOperands 125 = .ok (.getfield 26, 3) := by decide +kernel
theorem dX5_readOperands_128 : decode cX5_readOperands 128 = .ok (.iconst 0, 1) := by decide +kernel
theorem dX5_readOperands_129 : decode cX5_readOperands 129 = .ok (.iconst 1, 1) := by decide +kernel
theorem dX5_readOperands_130 : decode cX5_readOperands 130 = .ok (.invokevirtual 107, 3) := by decide +kernel
theorem dX5_readOperands_133 : decode cX5_readOperands 133 = .ok (.putfield 268, 3) := by decide +kernel
theorem dX5_readOperands_136 : decode cX5_readOperands 136 = .ok (.aload_n 1, 1) := by decide +kernel
theorem dX5_readOperands_137 : decode cX5_readOperands 137 = .ok (.aload_n 0, 1) := by decide +kernel
theorem dX5_readOperands_138 : decode cX5_readOperands 138 = .ok (.getfield 26, 3) := by decide +kernel
theorem dX5_readOperands_141 : decode cX5_readOperands 141 = .ok (.bipush 8, 2) := by decide +kernel
theorem dX5_readOperands_143 : decode cX5_readOperands 143 = .ok (.invokevirtual 128, 3) := by decide +kernel
theorem dX5_readOperands_146 : decode cX5_readOperands 146 = .ok (.putfield 263, 3) := by decide +kernel
theorem dX5_readOperands_149 : decode cX5_readOperands 149 = .ok (.aload_n 1, 1) := by decide +kernel
theorem dX5_readOperands_150 : decode cX5_readOperands 150 = .ok (.aload_n 1, 1) := by decide +kernel
theorem dX5_readOperands_151 : decode cX5_readOperands 151 = .ok (.getfield 263, 3) := by decide +kernel
theorem dX5_readOperands_154 : decode cX5_readOperands 154 = .ok (.getstatic 271, 3) := by decide +kernel
theorem dX5_readOperands_157 : decode cX5_readOperands 157 = .ok (.if_acmp .ne 10, 3) := by decide +kernel
theorem dX5_readOperands_160 : decode cX5_readOperands 160 = .ok (.aload_n 0, 1) := by decide +kernel
theorem dX5_readOperands_161 : decode cX5_readOperands 161 = .ok (.invokevirtual 153, 3) := by decide +kernel
theorem dX5_readOperands_164 : decode cX5_readOperands 164 = .ok (.goto 7, 3) := by decide +kernel
theorem dX5_readOperands_167 : decode cX5_readOperands 167 = .ok (.aload_n 0, 1) := by decide +kernel
theorem dX5_readOperands_168 : decode cX5_readOperands 168 = .ok (.invokevirtual 274, 3) := by decide +kernel
theorem dX5_readOperands_171 : decode cX5_readOperands 171 = .ok (.putfield 266, 3) := by decide +kernel
theorem dX5_readOperands_174 : decode cX5_readOperands 174 = .ok (.goto 212, 3) := by decide +kernel
theorem dX5_readOperands_177 : decode cX5_readOperands 177 = .ok (.aload_n 1, 1) := by decide +kernel
theorem dX5_readOperands_178 : decode cX5_readOperands 178 = .ok (.aload_n 0, 1) := by decide +kernel
theorem dX5_readOperands_179 : decode cX5_readOperands 179 = .ok (.getfield 26, 3) := by decide +kernel
theorem dX5_readOperands_182 : decode cX5_readOperands 182 = .ok (.bipush 16, 2) := by decide +kernel
theorem dX5_readOperands_184 : decode cX5_readOperands 184 = .ok (.invokevirtual 128, 3) := by decide +kernel
theorem dX5_readOperands_187 : decode cX5_readOperands 187 = .ok (.putfield 263, 3) := by decide +kernel
theorem dX5_readOperands_190 : decode cX5_readOperands 190 = .ok (.aload_n 1, 1) := by decide +kernel
theorem dX5_readOperands_191 : decode cX5_readOperands 191 = .ok (.aload_n 0, 1) := by decide +kernel
theorem dX5_readOperands_192 : decode cX5_readOperands 192 = .ok (.getfield 26, 3) := by decide +kernel
theorem dX5_readOperands_195 : decode cX5_readOperands 195 = .ok (.iconst 1, 1) := by decide +kernel
theorem dX5_readOperands_196 : decode cX5_readOperands 196 = .ok (.bipush 32, 2) := by decide +kernel
theorem dX5_readOperands_198 : decode cX5_readOperands 198 = .ok (.invokevirtual 107, 3) := by decide +kernel
theorem dX5_readOperands_201 : decode cX5_readOperands 201 = .ok (.putfield 266, 3) := by decide +kernel
theorem dX5_readOperands_204 : decode cX5_readOperands 204 = .ok (.goto 182, 3) := by decide +kernel
theorem dX5_readOperands_207 : decode cX5_readOperands 207 = .ok (.aload_n 1, 1) := by decide +kernel
theorem dX5_readOperands_208 : decode cX5_readOperands 208 = .ok (.aload_n 0, 1) := by decide +kernel
theorem dX5_readOperands_209 : decode cX5_readOperands 209 = .ok (.getfield 26, 3) := by decide +kernel
theorem dX5_readOperands_212 : decode cX5_readOperands 212 = .ok (.bipush 32, 2) := by decide +kernel
theorem dX5_readOperands_214 : decode cX5_readOperands 214 = .ok (.invokevirtual 128, 3) := by decide +kernel
theorem dX5_readOperands_217 : decode cX5_readOperands 217 = .ok (.putfield 263, 3) := by decide +kernel
theorem dX5_readOperands_220 : decode cX5_readOperands 220 = .ok (.aload_n 1, 1) := by decide +kernel
theorem dX5_readOperands_221 : decode cX5_readOperands 221 = .ok (.aload_n 0, 1) := by decide +kernel
theorem dX5_readOperands_222 : decode cX5_readOperands 222 = .ok (.getfield 26, 3) := by decide +kernel
theorem dX5_readOperands_225 : decode cX5_readOperands 225 = .ok (.iconst 1, 1) := by decide +kernel
theorem dX5_readOperands_226 : decode cX5_readOperands 226 = .ok (.bipush 32, 2) := by decide +kernel
theorem dX5_readOperands_228 : decode cX5_readOperands 228 = .ok (.invokevirtual 107, 3) := by decide +kernel
theorem dX5_readOperands_231 : decode cX5_readOperands 231 = .ok (.putfield 266, 3) := by decide +kernel
theorem dX5_readOperands_234 : decode cX5_readOperands 234 = .ok (.goto 152, 3) := by decide +kernel
theorem dX5_readOperands_237 : decode cX5_readOperands 237 = .ok (.aload_n 0, 1) := by decide +kernel
theorem dX5_readOperands_238 : decode cX5_readOperands 238 = .ok (.aload_n 1, 1) := by decide +kernel
theorem dX5_readOperands_239 : decode cX5_readOperands 239 = .ok (.getstatic 277, 3) := by decide +kernel
theorem dX5_readOperands_242 : decode cX5_readOperands 242 = .ok (.invokevirtual 280, 3) := by decide +kernel
theorem dX5_readOperands_245 : decode cX5_readOperands 245 = .ok (.goto 141, 3) := by decide +kernel
theorem dX5_readOperands_248 : decode cX5_readOperands 248 = .ok (.aload_n 0, 1) := by decide +kernel
theorem dX5_readOperands_249 : decode cX5_readOperands 249 = .ok (.aload_n 1, 1) := by decide +kernel
theorem dX5_readOperands_250 : decode cX5_readOperands 250 = .ok (.getstatic 284, 3) := by decide +kernel
theorem dX5_readOperands_253 : decode cX5_readOperands 253 = .ok (.invokevirtual 280, 3) := by decide +kernel
theorem dX5_readOperands_256 : decode cX5_readOperands 256 = .ok (.goto 130, 3) := by decide +kernel
theorem dX5_readOperands_259 : decode cX5_readOperands 259 = .ok (.aload_n 1, 1) := by decide +kernel
theorem dX5_readOperands_260 : decode cX5_readOperands 260 = .ok (.aload_n 0, 1) := by decide +kernel
theorem dX5_readOperands_261 : decode cX5_readOperands 261 = .ok (.getfield 26, 3) := by decide +kernel
theorem dX5_readOperands_264 : decode cX5_readOperands 264 = .ok (.bipush 64, 2) := by decide +kernel
theorem dX5_readOperands_266 : decode cX5_readOperands 266 = .ok (.invokevirtual 128, 3) := by decide +kernel
theorem dX5_readOperands_269 : decode cX5_readOperands 269 = .ok (.putfield 263, 3) := by decide +kernel
theorem dX5_readOperands_272 : decode cX5_readOperands 272 = .ok (.aload_n 1, 1) := by decide +kernel
theorem dX5_readOperands_273 : decode cX5_readOperands 273 = .ok (.aload_n 0, 1) := by decide +kernel
theorem dX5_readOperands_274 : decode cX5_readOperands 274 = .ok (.getfield 26, 3) := by decide +kernel
theorem dX5_readOperands_277 : decode cX5_readOperands 277 = .ok (.sipush 128, 3) := by decide +kernel
theorem dX5_readOperands_280 : decode cX5_readOperands 280 = .ok (.invokevirtual 260, 3) := by decide +kernel
theorem dX5_readOperands_283 : decode cX5_readOperands 283 = .ok (.putfield 287, 3) := by decide +kernel
theorem dX5_readOperands_286 : decode cX5_readOperands 286 = .ok (.aload_n 1, 1) := by decide +kernel
theorem dX5_readOperands_287 : decode cX5_readOperands 287 = .ok (.aload_n 0, 1) := by decide +kernel
theorem dX5_readOperands_288 : decode cX5_readOperands 288 = .ok (.getfield 26, 3) := by decide +kernel
theorem dX5_readOperands_291 : decode cX5_readOperands 291 = .ok (.sipush 256, 3) := by decide +kernel
theorem dX5_readOperands_294 : decode cX5_readOperands 294 = .ok (.invokevirtual 128, 3) := by decide +kernel
theorem dX5_readOperands_297 : decode cX5_readOperands 297 = .ok (.putfield 290, 3) := by decide +kernel
theorem dX5_readOperands_300 : decode cX5_readOperands 300 = .ok (.goto 86, 3) := by decide +kernel
theorem dX5_readOperands_303 : decode cX5_readOperands 303 = .ok (.aload_n 1, 1) := by decide +kernel
theorem dX5_readOperands_304 : decode cX5_readOperands 304 = .ok (.aload_n 0, 1) := by decide +kernel
theorem dX5_readOperands_305 : decode cX5_readOperands 305 = .ok (.getfield 26, 3) := by decide +kernel
theorem dX5_readOperands_308 : decode cX5_readOperands 308 = .ok (.sipush 512, 3) := by decide +kernel
theorem dX5_readOperands_311 : decode cX5_readOperands 311 = .ok (.invokevirtual 128, 3) := by decide +kernel
theorem dX5_readOperands_314 : decode cX5_readOperands 314 = .ok (.putfield 263, 3) := by decide +kernel
theorem dX5_readOperands_317 : decode cX5_readOperands 317 = .ok (.aload_n 1, 1) := by decide +kernel
theorem dX5_readOperands_318 : decode cX5_readOperands 318 = .ok (.aload_n 0, 1) := by decide +kernel
theorem dX5_readOperands_319 : decode cX5_readOperands 319 = .ok (.getfield 26, 3) := by decide +kernel
theorem dX5_readOperands_322 : decode cX5_readOperands 322 = .ok (.iconst 0, 1) := by decide +kernel
theorem dX5_readOperands_323 : decode cX5_readOperands 323 = .ok (.bipush 31, 2) := by decide +kernel
theorem dX5_readOperands_325 : decode cX5_readOperands 325 = .ok (.invokevirtual 107, 3) := by decide +kernel
theorem dX5_readOperands_328 : decode cX5_readOperands 328 = .ok (.putfield 266, 3) := by decide +kernel
theorem dX5_readOperands_331 : decode cX5_readOperands 331 = .ok (.goto 55, 3) := by decide +kernel
theorem dX5_readOperands_334 : decode cX5_readOperands 334 = .ok (.aload_n 1, 1) := by decide +kernel
theorem dX5_readOperands_335 : decode cX5_readOperands 335 = .ok (.aload_n 0, 1) := by decide +kernel
theorem dX5_readOperands_336 : decode cX5_readOperands 336 = .ok (.getfield 26, 3) := by decide +kernel
theorem dX5_readOperands_339 : decode cX5_readOperands 339 = .ok (.sipush 1024, 3) := by decide +kernel
theorem dX5_readOperands_342 : decode cX5_readOperands 342 = .ok (.invokevirtual 128, 3) := by decide +kernel
theorem dX5_readOperands_345 : decode cX5_readOperands 345 = .ok (.putfield 263, 3) := by decide +kernel
theorem dX5_readOperands_348 : decode cX5_readOperands 348 = .ok (.aload_n 0, 1) := by decide +kernel
theorem dX5_readOperands_349 : decode cX5_readOperands 349 = .ok (.aload_n 1, 1) := by decide +kernel
theorem dX5_readOperands_350 : decode cX5_readOperands 350 = .ok (.invokevirtual 293, 3) := by decide +kernel
theorem dX5_readOperands_353 : decode cX5_readOperands 353 = .ok (.goto 33, 3) := by decide +kernel
theorem dX5_readOperands_356 : decode cX5_readOperands 356 = .ok (.aload_n 1, 1) := by decide +kernel
theorem dX5_readOperands_357 : decode cX5_readOperands 357 = .ok (.aload_n 0, 1) := by decide +kernel
theorem dX5_readOperands_358 : decode cX5_readOperands 358 = .ok (.getfield 26, 3) := by decide +kernel
theorem dX5_readOperands_361 : decode cX5_readOperands 361 = .ok (.sipush 2048, 3) := by decide +kernel
theorem dX5_readOperands_364 : decode cX5_readOperands 364 = .ok (.invokevirtual 128, 3) := by decide +kernel
theorem dX5_readOperands_367 : decode cX5_readOperands 367 = .ok (.putfield 263, 3) := by decide +kernel
theorem dX5_readOperands_370 : decode cX5_readOperands 370 = .ok (.aload_n 0, 1) := by decide +kernel
theorem dX5_readOperands_371 : decode cX5_readOperands 371 = .ok (.aload_n 1, 1) := by decide +kernel
theorem dX5_readOperands_372 : decode cX5_readOperands 372 = .ok (.invokevirtual 293, 3) := by decide +kernel
theorem dX5_readOperands_375 : decode cX5_readOperands 375 = .ok (.goto 11, 3) := by decide +kernel
theorem dX5_readOperands_378 : decode cX5_readOperands 378 = .ok (.aload_n 1, 1) := by decide +kernel
theorem dX5_readOperands_379 : decode cX5_readOperands 379 = .ok (.aload_n 0, 1) := by decide +kernel
theorem dX5_readOperands_380 : decode cX5_readOperands 380 = .ok (.invokevirtual 274, 3) := by decide +kernel
theorem dX5_readOperands_383 : decode cX5_readOperands 383 = .ok (.putfield 266, 3) := by decide +kernel
theorem dX5_readOperands_386 : decode cX5_readOperands 386 = .ok (.return_, 1) := by decide +kernel
theorem dX5_readWays_0 : decode cX5_readWays 0 = .ok (.aload_n 0, 1) := by decide +kernel
theorem dX5_readWays_1 : decode cX5_readWays 1 = .ok (.getfield 26, 3) := by decide +kernel
theorem dX5_readWays_4 : decode cX5_readWays 4 = .ok (.aload_n 2, 1) := by decide +kernel
theorem dX5_readWays_5 : decode cX5_readWays 5 = .ok (.invokevirtual 63, 3) := by decide +kernel
theorem dX5_readWays_8 : decode cX5_readWays 8 = .ok (.ifCond .eq 8, 3) := by decide +kernel
theorem dX5_readWays_11 : decode cX5_readWays 11 = .ok (.aload_n 1, 1) := by decide +kernel
theorem dX5_readWays_12 : decode cX5_readWays 12 = .ok (.aload_n 2, 1) := by decide +kernel
theorem dX5_readWays_13 : decode cX5_readWays 13 = .ok (.putfield 263, 3) := by decide +kernel
theorem dX5_readWays_16 : decode cX5_readWays 16 = .ok (.aload_n 0, 1) := by decide +kernel
theorem dX5_readWays_17 : decode cX5_readWays 17 = .ok (.getfield 26, 3) := by decide +kernel
theorem dX5_readWays_20 : decode cX5_readWays 20 = .ok (.getstatic 296, 3) := by decide +kernel
theorem dX5_readWays_23 : decode cX5_readWays 23 = .ok (.invokevirtual 63, 3) := by decide +kernel
theorem dX5_readWays_26 : decode cX5_readWays 26 = .ok (.ifCond .eq 10, 3) := by decide +kernel
theorem dX5_readWays_29 : decode cX5_readWays 29 = .ok (.aload_n 1, 1) := by decide +kernel
theorem dX5_readWays_30 : decode cX5_readWays 30 = .ok (.getstatic 296, 3) := by decide +kernel
theorem dX5_readWays_33 : decode cX5_readWays 33 = .ok (.putfield 290, 3) := by decide +kernel
theorem dX5_readWays_36 : decode cX5_readWays 36 = .ok (.return_, 1) := by decide +kernel
theorem dX5_readPlace_0 : decode cX5_readPlace 0 = .ok (.aload_n 1, 1) := by decide +kernel
theorem dX5_readPlace_1 : decode cX5_readPlace 1 = .ok (.aload_n 0, 1) := by decide +kernel
theorem dX5_readPlace_2 : decode cX5_readPlace 2 = .ok (.getfield 26, 3) := by decide +kernel
theorem dX5_readPlace_5 : decode cX5_readPlace 5 = .ok (.sipush 4096, 3) := by decide +kernel
theorem dX5_readPlace_8 : decode cX5_readPlace 8 = .ok (.invokevirtual 260, 3) := by decide +kernel
theorem dX5_readPlace_11 : decode cX5_readPlace 11 = .ok (.putfield 290, 3) := by decide +kernel
theorem dX5_readPlace_14 : decode cX5_readPlace 14 = .ok (.aload_n 1, 1) := by decide +kernel
theorem dX5_readPlace_15 : decode cX5_readPlace 15 = .ok (.getfield 290, 3) := by decide +kernel
theorem dX5_readPlace_18 : decode cX5_readPlace 18 = .ok (.getstatic 299, 3) := by decide +kernel
theorem dX5_readPlace_21 : decode cX5_readPlace 21 = .ok (.if_acmp .ne 17, 3) := by decide +kernel
theorem dX5_readPlace_24 : decode cX5_readPlace 24 = .ok (.aload_n 1, 1) := by decide +kernel
theorem dX5_readPlace_25 : decode cX5_readPlace 25 = .ok (.aload_n 0, 1) := by decide +kernel
theorem dX5_readPlace_26 : decode cX5_readPlace 26 = .ok (.getfield 26, 3) := by decide +kernel
theorem dX5_readPlace_29 : decode cX5_readPlace 29 = .ok (.iconst 0, 1) := by decide +kernel
theorem dX5_readPlace_30 : decode cX5_readPlace 30 = .ok (.bipush 15, 2) := by decide +kernel
theorem dX5_readPlace_32 : decode cX5_readPlace 32 = .ok (.invokevirtual 107, 3) := by decide +kernel
theorem dX5_readPlace_35 : decode cX5_readPlace 35 = .ok (.putfield 266, 3) := by decide +kernel
theorem dX5_readPlace_38 : decode cX5_readPlace 38 = .ok (.return_, 1) := by decide +kernel
theorem dX5_takePin_0 : decode cX5_takePin 0 = .ok (.aload_n 0, 1) := by decide +kernel
theorem dX5_takePin_1 : decode cX5_takePin 1 = .ok (.getfield 26, 3) := by decide +kernel
theorem dX5_takePin_4 : decode cX5_takePin 4 = .ok (.iconst 0, 1) := by decide +kernel
theorem dX5_takePin_5 : decode cX5_takePin 5 = .ok (.bipush 15, 2) := by decide +kernel
theorem dX5_takePin_7 : decode cX5_takePin 7 = .ok (.invokevirtual 107, 3) := by decide +kernel
theorem dX5_takePin_10 : decode cX5_takePin 10 = .ok (.ireturn, 1) := by decide +kernel
theorem dX5_takeFlag_0 : decode cX5_takeFlag 0 = .ok (.aload_n 0, 1) := by decide +kernel
theorem dX5_takeFlag_1 : decode cX5_takeFlag 1 = .ok (.getfield 26, 3) := by decide +kernel
theorem dX5_takeFlag_4 : decode cX5_takeFlag 4 = .ok (.iconst 0, 1) := by decide +kernel
theorem dX5_takeFlag_5 : decode cX5_takeFlag 5 = .ok (.bipush 7, 2) := by decide +kernel
theorem dX5_takeFlag_7 : decode cX5_takeFlag 7 = .ok (.invokevirtual 107, 3) := by decide +kernel
theorem dX5_takeFlag_10 : decode cX5_takeFlag 10 = .ok (.ireturn, 1) := by decide +kernel
theorem dX5_takeGroup_0 : decode cX5_takeGroup 0 = .ok (.aload_n 0, 1) := by decide +kernel
theorem dX5_takeGroup_1 : decode cX5_takeGroup 1 = .ok (.getfield 26, 3) := by decide +kernel
theorem dX5_takeGroup_4 : decode cX5_takeGroup 4 = .ok (.iconst 1, 1) := by decide +kernel
theorem dX5_takeGroup_5 : decode cX5_takeGroup 5 = .ok (.iload_n 2, 1) := by decide +kernel
theorem dX5_takeGroup_6 : decode cX5_takeGroup 6 = .ok (.invokevirtual 107, 3) := by decide +kernel
theorem dX5_takeGroup_9 : decode cX5_takeGroup 9 = .ok (.istore_n 3, 1) := by decide +kernel
theorem dX5_takeGroup_10 : decode cX5_takeGroup 10 = .ok (.iconst 1, 1) := by decide +kernel
theorem dX5_takeGroup_11 : decode cX5_takeGroup 11 = .ok (.iload_n 3, 1) := by decide +kernel
theorem dX5_takeGroup_12 : decode cX5_takeGroup 12 = .ok (.ishl, 1) := by decide +kernel
theorem dX5_takeGroup_13 : decode cX5_takeGroup 13 = .ok (.iconst 1, 1) := by decide +kernel
theorem dX5_takeGroup_14 : decode cX5_takeGroup 14 = .ok (.isub, 1) := by decide +kernel
theorem dX5_takeGroup_15 : decode cX5_takeGroup 15 = .ok (.iload_n 1, 1) := by decide +kernel
theorem dX5_takeGroup_16 : decode cX5_takeGroup 16 = .ok (.invokestatic 302, 3) := by decide +kernel
theorem dX5_takeGroup_19 : decode cX5_takeGroup 19 = .ok (.ireturn, 1) := by decide +kernel
theorem dX5_takeName_0 : decode cX5_takeName 0 = .ok (.aload_n 0, 1) := by decide +kernel
theorem dX5_takeName_1 : decode cX5_takeName 1 = .ok (.getfield 26, 3) := by decide +kernel
theorem dX5_takeName_4 : decode cX5_takeName 4 = .ok (.getstatic 210, 3) := by decide +kernel
theorem dX5_takeName_7 : decode cX5_takeName 7 = .ok (.invokevirtual 56, 3) := by decide +kernel
theorem dX5_takeName_10 : decode cX5_takeName 10 = .ok (.ifCond .ne 13, 3) := by decide +kernel
theorem dX5_takeName_13 : decode cX5_takeName 13 = .ok (.aload_n 0, 1) := by decide +kernel
theorem dX5_takeName_14 : decode cX5_takeName 14 = .ok (.getfield 26, 3) := by decide +kernel
theorem dX5_takeName_17 : decode cX5_takeName 17 = .ok (.iconst 1, 1) := by decide +kernel
theorem dX5_takeName_18 : decode cX5_takeName 18 = .ok (.invokevirtual 99, 3) := by decide +kernel
theorem dX5_takeName_21 : decode cX5_takeName 21 = .ok (.iconst 0, 1) := by decide +kernel
theorem dX5_takeName_22 : decode cX5_takeName 22 = .ok (.ireturn, 1) := by decide +kernel
theorem dX5_takeName_23 : decode cX5_takeName 23 = .ok (.aload_n 0, 1) := by decide +kernel
theorem dX5_takeName_24 : decode cX5_takeName 24 = .ok (.getfield 9, 3) := by decide +kernel
theorem dX5_takeName_27 : decode cX5_takeName 27 = .ok (.ifCond .eq 10, 3) := by decide +kernel
theorem dX5_takeName_30 : decode cX5_takeName 30 = .ok (.aload_n 0, 1) := by decide +kernel
theorem dX5_takeName_31 : decode cX5_takeName 31 = .ok (.invokevirtual 219, 3) := by decide +kernel
theorem dX5_takeName_34 : decode cX5_takeName 34 = .ok (.goto 4, 3) := by decide +kernel
theorem dX5_takeName_37 : decode cX5_takeName 37 = .ok (.iconst 0, 1) := by decide +kernel
theorem dX5_takeName_38 : decode cX5_takeName 38 = .ok (.istore_n 1, 1) := by decide +kernel
theorem dX5_takeName_39 : decode cX5_takeName 39 = .ok (.iload_n 1, 1) := by decide +kernel
theorem dX5_takeName_40 : decode cX5_takeName 40 = .ok (.iconst (-1), 1) := by decide +kernel
theorem dX5_takeName_41 : decode cX5_takeName 41 = .ok (.if_icmp .ne 13, 3) := by decide +kernel
theorem dX5_takeName_44 : decode cX5_takeName 44 = .ok (.aload_n 0, 1) := by decide +kernel
theorem dX5_takeName_45 : decode cX5_takeName 45 = .ok (.getfield 26, 3) := by decide +kernel
theorem dX5_takeName_48 : decode cX5_takeName 48 = .ok (.iconst 5, 1) := by decide +kernel
theorem dX5_takeName_49 : decode cX5_takeName 49 = .ok (.invokevirtual 99, 3) := by decide +kernel
theorem dX5_takeName_52 : decode cX5_takeName 52 = .ok (.iconst 0, 1) := by decide +kernel
theorem dX5_takeName_53 : decode cX5_takeName 53 = .ok (.ireturn, 1) := by decide +kernel
theorem dX5_takeName_54 : decode cX5_takeName 54 = .ok (.aload_n 0, 1) := by decide +kernel
theorem dX5_takeName_55 : decode cX5_takeName 55 = .ok (.getfield 26, 3) := by decide +kernel
theorem dX5_takeName_58 : decode cX5_takeName 58 = .ok (.getstatic 210, 3) := by decide +kernel
theorem dX5_takeName_61 : decode cX5_takeName 61 = .ok (.invokevirtual 63, 3) := by decide +kernel
theorem dX5_takeName_64 : decode cX5_takeName 64 = .ok (.pop, 1) := by decide +kernel
theorem dX5_takeName_65 : decode cX5_takeName 65 = .ok (.iload_n 1, 1) := by decide +kernel
theorem dX5_takeName_66 : decode cX5_takeName 66 = .ok (.ireturn, 1) := by decide +kernel
theorem dX6_init_0 : decode cX6_init 0 = .ok (.aload_n 0, 1) := by decide +kernel
theorem dX6_init_1 : decode cX6_init 1 = .ok (.invokespecial 3, 3) := by decide +kernel
theorem dX6_init_4 : decode cX6_init 4 = .ok (.aload_n 0, 1) := by decide +kernel
theorem dX6_init_5 : decode cX6_init 5 = .ok (.iconst 4, 1) := by decide +kernel
theorem dX6_init_6 : decode cX6_init 6 = .ok (.newarray .int, 2) := by decide +kernel
theorem dX6_init_8 : decode cX6_init 8 = .ok (.putfield 9, 3) := by decide +kernel
theorem dX6_init_11 : decode cX6_init 11 = .ok (.aload_n 0, 1) := by decide +kernel
theorem dX6_init_12 : decode cX6_init 12 = .ok (.iconst 4, 1) := by decide +kernel
theorem dX6_init_13 : decode cX6_init 13 = .ok (.newarray .int, 2) := by decide +kernel
theorem dX6_init_15 : decode cX6_init 15 = .ok (.putfield 15, 3) := by decide +kernel
theorem dX6_init_18 : decode cX6_init 18 = .ok (.aload_n 0, 1) := by decide +kernel
theorem dX6_init_19 : decode cX6_init 19 = .ok (.aload_n 1, 1) := by decide +kernel
theorem dX6_init_20 : decode cX6_init 20 = .ok (.putfield 18, 3) := by decide +kernel
theorem dX6_init_23 : decode cX6_init 23 = .ok (.aload_n 0, 1) := by decide +kernel
theorem dX6_init_24 : decode cX6_init 24 = .ok (.aload_n 2, 1) := by decide +kernel
theorem dX6_init_25 : decode cX6_init 25 = .ok (.putfield 22, 3) := by decide +kernel
theorem dX6_init_28 : decode cX6_init 28 = .ok (.return_, 1) := by decide +kernel
theorem dX6_readTest_0 : decode cX6_readTest 0 = .ok (.aload_n 0, 1) := by decide +kernel
theorem dX6_readTest_1 : decode cX6_readTest 1 = .ok (.iload_n 1, 1) := by decide +kernel
theorem dX6_readTest_2 : decode cX6_readTest 2 = .ok (.invokevirtual 26, 3) := by decide +kernel
theorem dX6_readTest_5 : decode cX6_readTest 5 = .ok (.istore_n 2, 1) := by decide +kernel
theorem dX6_readTest_6 : decode cX6_readTest 6 = .ok (.iconst 0, 1) := by decide +kernel
theorem dX6_readTest_7 : decode cX6_readTest 7 = .ok (.istore_n 3, 1) := by decide +kernel
theorem dX6_readTest_8 : decode cX6_readTest 8 = .ok (.iload_n 3, 1) := by decide +kernel
theorem dX6_readTest_9 : decode cX6_readTest 9 = .ok (.sipush 200, 3) := by decide +kernel
theorem dX6_readTest_12 : decode cX6_readTest 12 = .ok (.if_icmp .ge 30, 3) := by decide +kernel
theorem dX6_readTest_15 : decode cX6_readTest 15 = .ok (.aload_n 0, 1) := by decide +kernel
theorem dX6_readTest_16 : decode cX6_readTest 16 = .ok (.getfield 18, 3) := by decide +kernel
theorem dX6_readTest_19 : decode cX6_readTest 19 = .ok (.getstatic 30, 3) := by decide +kernel
theorem dX6_readTest_22 : decode cX6_readTest 22 = .ok (.invokevirtual 36, 3) := by decide +kernel
theorem dX6_readTest_25 : decode cX6_readTest 25 = .ok (.ifCond .eq 17, 3) := by decide +kernel
theorem dX6_readTest_28 : decode cX6_readTest 28 = .ok (.iload_n 2, 1) := by decide +kernel
theorem dX6_readTest_29 : decode cX6_readTest 29 = .ok (.aload_n 0, 1) := by decide +kernel
theorem dX6_readTest_30 : decode cX6_readTest 30 = .ok (.iload_n 1, 1) := by decide +kernel
theorem dX6_readTest_31 : decode cX6_readTest 31 = .ok (.invokevirtual 26, 3) := by decide +kernel
theorem dX6_readTest_34 : decode cX6_readTest 34 = .ok (.ior, 1) := by decide +kernel
theorem dX6_readTest_35 : decode cX6_readTest 35 = .ok (.istore_n 2, 1) := by decide +kernel
theorem dX6_readTest_36 : decode cX6_readTest 36 = .ok (.iinc 3 1, 3) := by decide +kernel
theorem dX6_readTest_39 : decode cX6_readTest 39 = .ok (.goto (-31), 3) := by decide +kernel
theorem dX6_readTest_42 : decode cX6_readTest 42 = .ok (.iload_n 2, 1) := by decide +kernel
theorem dX6_readTest_43 : decode cX6_readTest 43 = .ok (.ireturn, 1) := by decide +kernel
theorem dX6_readConjunction_0 : decode cX6_readConjunction 0 = .ok (.aload_n 0, 1) := by decide +kernel
theorem dX6_readConjunction_1 : decode cX6_readConjunction 1 = .ok (.iload_n 1, 1) := by decide +kernel
theorem dX6_readConjunction_2 : decode cX6_readConjunction 2 = .ok (.invokevirtual 42, 3) := by decide +kernel
theorem dX6_readConjunction_5 : decode cX6_readConjunction 5 = .ok (.istore_n 2, 1) := by decide +kernel
theorem dX6_readConjunction_6 : decode cX6_readConjunction 6 = .ok (.iconst 0, 1) := by decide +kernel
theorem dX6_readConjunction_7 : decode cX6_readConjunction 7 = .ok (.istore_n 3, 1) := by decide +kernel
theorem dX6_readConjunction_8 : decode cX6_readConjunction 8 = .ok (.iload_n 3, 1) := by decide +kernel
theorem dX6_readConjunction_9 : decode cX6_readConjunction 9 = .ok (.sipush 200, 3) := by decide +kernel
theorem dX6_readConjunction_12 : decode cX6_readConjunction 12 = .ok (.if_icmp .ge 30, 3) := by decide +kernel
theorem dX6_readConjunction_15 : decode cX6_readConjunction 15 = .ok (.aload_n 0, 1) := by decide +kernel
theorem dX6_readConjunction_16 : decode cX6_readConjunction 16 = .ok (.getfield 18, 3) := by decide +kernel
theorem dX6_readConjunction_19 : decode cX6_readConjunction 19 = .ok (.getstatic 45, 3) := by decide +kernel
theorem dX6_readConjunction_22 : decode cX6_readConjunction 22 = .ok (.invokevirtual 36, 3) := by decide +kernel
theorem dX6_readConjunction_25 : decode cX6_readConjunction 25 = .ok (.ifCond .eq 17, 3) := by decide +kernel
theorem dX6_readConjunction_28 : decode cX6_readConjunction 28 = .ok (.iload_n 2, 1) := by decide +kernel
theorem dX6_readConjunction_29 : decode cX6_readConjunction 29 = .ok (.aload_n 0, 1) := by decide +kernel
theorem dX6_readConjunction_30 : decode cX6_readConjunction 30 = .ok (.iload_n 1, 1) := by decide +kernel
theorem dX6_readConjunction_31 : decode cX6_readConjunction 31 = .ok (.invokevirtual 42, 3) := by decide +kernel
theorem dX6_readConjunction_34 : decode cX6_readConjunction 34 = .ok (.iand, 1) := by decide +kernel
theorem dX6_readConjunction_35 : decode cX6_readConjunction 35 = .ok (.istore_n 2, 1) := by decide +kernel
theorem dX6_readConjunction_36 : decode cX6_readConjunction 36 = .ok (.iinc 3 1, 3) := by decide +kernel
theorem dX6_readConjunction_39 : decode cX6_readConjunction 39 = .ok (.goto (-31), 3) := by decide +kernel
theorem dX6_readConjunction_42 : decode cX6_readConjunction 42 = .ok (.iload_n 2, 1) := by decide +kernel
theorem dX6_readConjunction_43 : decode cX6_readConjunction 43 = .ok (.ireturn, 1) := by decide +kernel
theorem dX6_readFactor_0 : decode cX6_readFactor 0 = .ok (.aload_n 0, 1) := by decide +kernel
theorem dX6_readFactor_1 : decode cX6_readFactor 1 = .ok (.getfield 18, 3) := by decide +kernel
theorem dX6_readFactor_4 : decode cX6_readFactor 4 = .ok (.getstatic 48, 3) := by decide +kernel
theorem dX6_readFactor_7 : decode cX6_readFactor 7 = .ok (.invokevirtual 51, 3) := by decide +kernel
theorem dX6_readFactor_10 : decode cX6_readFactor 10 = .ok (.ifCond .ne 21, 3) := by decide +kernel
theorem dX6_readFactor_13 : decode cX6_readFactor 13 = .ok (.aload_n 0, 1) := by decide +kernel
theorem dX6_readFactor_14 : decode cX6_readFactor 14 = .ok (.getfield 18, 3) := by decide +kernel
theorem dX6_readFactor_17 : decode cX6_readFactor 17 = .ok (.getstatic 54, 3) := by decide +kernel
theorem dX6_readFactor_20 : decode cX6_readFactor 20 = .ok (.invokevirtual 51, 3) := by decide +kernel
theorem dX6_readFactor_23 : decode cX6_readFactor 23 = .ok (.ifCond .ne 8, 3) := by decide +kernel
theorem dX6_readFactor_26 : decode cX6_readFactor 26 = .ok (.aload_n 0, 1) := by decide +kernel
theorem dX6_readFactor_27 : decode cX6_readFactor 27 = .ok (.invokevirtual 57, 3) := by decide +kernel
theorem dX6_readFactor_30 : decode cX6_readFactor 30 = .ok (.ireturn, 1) := by decide +kernel
theorem dX6_readFactor_31 : decode cX6_readFactor 31 = .ok (.iload_n 1, 1) := by decide +kernel
theorem dX6_readFactor_32 : decode cX6_readFactor 32 = .ok (.bipush 6, 2) := by decide +kernel
theorem dX6_readFactor_34 : decode cX6_readFactor 34 = .ok (.if_icmp .lt 13, 3) := by decide +kernel
theorem dX6_readFactor_37 : decode cX6_readFactor 37 = .ok (.aload_n 0, 1) := by decide +kernel
theorem dX6_readFactor_38 : decode cX6_readFactor 38 = .ok (.getfield 18, 3) := by decide +kernel
theorem dX6_readFactor_41 : decode cX6_readFactor 41 = .ok (.iconst 3, 1) := by decide +kernel
theorem dX6_readFactor_42 : decode cX6_readFactor 42 = .ok (.invokevirtual 61, 3) := by decide +kernel
theorem dX6_readFactor_45 : decode cX6_readFactor 45 = .ok (.iconst 0, 1) := by decide +kernel
theorem dX6_readFactor_46 : decode cX6_readFactor 46 = .ok (.ireturn, 1) := by decide +kernel
theorem dX6_readFactor_47 : decode cX6_readFactor 47 = .ok (.aload_n 0, 1) := by decide +kernel
theorem dX6_readFactor_48 : decode cX6_readFactor 48 = .ok (.getfield 18, 3) := by decide +kernel
theorem dX6_readFactor_51 : decode cX6_readFactor 51 = .ok (.getstatic 48, 3) := by decide +kernel
theorem dX6_readFactor_54 : decode cX6_readFactor 54 = .ok (.invokevirtual 36, 3) := by decide +kernel
theorem dX6_readFactor_57 : decode cX6_readFactor 57 = .ok (.ifCond .eq 13, 3) := by decide +kernel
theorem dX6_readFactor_60 : decode cX6_readFactor 60 = .ok (.aload_n 0, 1) := by decide +kernel
theorem dX6_readFactor_61 : decode cX6_readFactor 61 = .ok (.iload_n 1, 1) := by decide +kernel
theorem dX6_readFactor_62 : decode cX6_readFactor 62 = .ok (.iconst 1, 1) := by decide +kernel
theorem dX6_readFactor_63 : decode cX6_readFactor 63 = .ok (.iadd, 1) := by decide +kernel
theorem dX6_readFactor_64 : decode cX6_readFactor 64 = .ok (.invokevirtual 42, 3) := by decide +kernel
theorem dX6_readFactor_67 : decode cX6_readFactor 67 = .ok (.iconst (-1), 1) := by decide +kernel
theorem dX6_readFactor_68 : decode cX6_readFactor 68 = .ok (.ixor, 1) := by decide +kernel
theorem dX6_readFactor_69 : decode cX6_readFactor 69 = .ok (.ireturn, 1) := by decide +kernel
theorem dX6_readFactor_70 : decode cX6_readFactor 70 = .ok (.aload_n 0, 1) := by decide +kernel
theorem dX6_readFactor_71 : decode cX6_readFactor 71 = .ok (.getfield 18, 3) := by decide +kernel
theorem dX6_readFactor_74 : decode cX6_readFactor 74 = .ok (.getstatic 54, 3) := by decide +kernel
theorem dX6_readFactor_77 : decode cX6_readFactor 77 = .ok (.invokevirtual 36, 3) := by decide +kernel
theorem dX6_readFactor_80 : decode cX6_readFactor 80 = .ok (.pop, 1) := by decide +kernel
theorem dX6_readFactor_81 : decode cX6_readFactor 81 = .ok (.aload_n 0, 1) := by decide +kernel
theorem dX6_readFactor_82 : decode cX6_readFactor 82 = .ok (.iload_n 1, 1) := by decide +kernel
theorem dX6_readFactor_83 : decode cX6_readFactor 83 = .ok (.iconst 1, 1) := by decide +kernel
theorem dX6_readFactor_84 : decode cX6_readFactor 84 = .ok (.iadd, 1) := by decide +kernel
theorem dX6_readFactor_85 : decode cX6_readFactor 85 = .ok (.invokevirtual 65, 3) := by decide +kernel
theorem dX6_readFactor_88 : decode cX6_readFactor 88 = .ok (.istore_n 2, 1) := by decide +kernel
theorem dX6_readFactor_89 : decode cX6_readFactor 89 = .ok (.aload_n 0, 1) := by decide +kernel
theorem dX6_readFactor_90 : decode cX6_readFactor 90 = .ok (.getfield 18, 3) := by decide +kernel
theorem dX6_readFactor_93 : decode cX6_readFactor 93 = .ok (.getstatic 68, 3) := by decide +kernel
theorem dX6_readFactor_96 : decode cX6_readFactor 96 = .ok (.invokevirtual 71, 3) := by decide +kernel
theorem dX6_readFactor_99 : decode cX6_readFactor 99 = .ok (.iload_n 2, 1) := by decide +kernel
theorem dX6_readFactor_100 : decode cX6_readFactor 100 = .ok (.ireturn, 1) := by decide +kernel
theorem dX6_readComparison_0 : decode cX6_readComparison 0 = .ok (.aload_n 0, 1) := by decide +kernel
theorem dX6_readComparison_1 : decode cX6_readComparison 1 = .ok (.aload_n 0, 1) := by decide +kernel
theorem dX6_readComparison_2 : decode cX6_readComparison 2 = .ok (.getfield 9, 3) := by decide +kernel
theorem dX6_readComparison_5 : decode cX6_readComparison 5 = .ok (.invokevirtual 75, 3) := by decide +kernel
theorem dX6_readComparison_8 : decode cX6_readComparison 8 = .ok (.aload_n 0, 1) := by decide +kernel
theorem dX6_readComparison_9 : decode cX6_readComparison 9 = .ok (.getfield 18, 3) := by decide +kernel
theorem dX6_readComparison_12 : decode cX6_readComparison 12 = .ok (.ldc 79, 2) := by decide +kernel
theorem dX6_readComparison_14 : decode cX6_readComparison 14 = .ok (.invokevirtual 80, 3) := by decide +kernel
theorem dX6_readComparison_17 : decode cX6_readComparison 17 = .ok (.astore_n 1, 1) := by decide +kernel
theorem dX6_readComparison_18 : decode cX6_readComparison 18 = .ok (.aload_n 0, 1) := by decide +kernel
theorem dX6_readComparison_19 : decode cX6_readComparison 19 = .ok (.aload_n 0, 1) := by decide +kernel
theorem dX6_readComparison_20 : decode cX6_readComparison 20 = .ok (.getfield 15, 3) := by decide +kernel
theorem dX6_readComparison_23 : decode cX6_readComparison 23 = .ok (.invokevirtual 75, 3) := by decide +kernel
theorem dX6_readComparison_26 : decode cX6_readComparison 26 = .ok (.iconst 0, 1) := by decide +kernel
theorem dX6_readComparison_27 : decode cX6_readComparison 27 = .ok (.istore_n 2, 1) := by decide +kernel
theorem dX6_readComparison_28 : decode cX6_readComparison 28 = .ok (.iconst 0, 1) := by decide +kernel
theorem dX6_readComparison_29 : decode cX6_readComparison 29 = .ok (.istore_n 3, 1) := by decide +kernel
theorem dX6_readComparison_30 : decode cX6_readComparison 30 = .ok (.iload_n 3, 1) := by decide +kernel
theorem dX6_readComparison_31 : decode cX6_readComparison 31 = .ok (.iconst 4, 1) := by decide +kernel
theorem dX6_readComparison_32 : decode cX6_readComparison 32 = .ok (.if_icmp .ge 34, 3) := by decide +kernel
theorem dX6_readComparison_35 : decode cX6_readComparison 35 = .ok (.aload_n 0, 1) := by decide +kernel
theorem dX6_readComparison_36 : decode cX6_readComparison 36 = .ok (.getfield 9, 3) := by decide +kernel
theorem dX6_readComparison_39 : decode cX6_readComparison 39 = .ok (.iload_n 3, 1) := by decide +kernel
theorem dX6_readComparison_40 : decode cX6_readComparison 40 = .ok (.iaload, 1) := by decide +kernel
theorem dX6_readComparison_41 : decode cX6_readComparison 41 = .ok (.aload_n 1, 1) := by decide +kernel
theorem dX6_readComparison_42 : decode cX6_readComparison 42 = .ok (.aload_n 0, 1) := by decide +kernel
theorem dX6_readComparison_43 : decode cX6_readComparison 43 = .ok (.getfield 15, 3) := by decide +kernel
theorem dX6_readComparison_46 : decode cX6_readComparison 46 = .ok (.iload_n 3, 1) := by decide +kernel
theorem dX6_readComparison_47 : decode cX6_readComparison 47 = .ok (.iaload, 1) := by decide +kernel
theorem dX6_readComparison_48 : decode cX6_readComparison 48 = .ok (.invokestatic 84, 3) := by decide +kernel
theorem dX6_readComparison_51 : decode cX6_readComparison 51 = .ok (.ifCond .eq 9, 3) := by decide +kernel
theorem dX6_readComparison_54 : decode cX6_readComparison 54 = .ok (.iload_n 2, 1) := by decide +kernel
theorem dX6_readComparison_55 : decode cX6_readComparison 55 = .ok (.iconst 1, 1) := by decide +kernel
theorem dX6_readComparison_56 : decode cX6_readComparison 56 = .ok (.iload_n 3, 1) := by decide +kernel
theorem dX6_readComparison_57 : decode cX6_readComparison 57 = .ok (.ishl, 1) := by decide +kernel
theorem dX6_readComparison_58 : decode cX6_readComparison 58 = .ok (.ior, 1) := by decide +kernel
theorem dX6_readComparison_59 : decode cX6_readComparison 59 = .ok (.istore_n 2, 1) := by decide +kernel
theorem dX6_readComparison_60 : decode cX6_readComparison 60 = .ok (.iinc 3 1, 3) := by decide +kernel
theorem dX6_readComparison_63 : decode cX6_readComparison 63 = .ok (.goto (-33), 3) := by decide +kernel
theorem dX6_readComparison_66 : decode cX6_readComparison 66 = .ok (.iload_n 2, 1) := by decide +kernel
theorem dX6_readComparison_67 : decode cX6_readComparison 67 = .ok (.ireturn, 1) := by decide +kernel
theorem dX6_compares_0 : decode cX6_compares 0 = .ok (.aload_n 1, 1) := by decide +kernel
theorem dX6_compares_1 : decode cX6_compares 1 = .ok (.getstatic 88, 3) := by decide +kernel
theorem dX6_compares_4 : decode cX6_compares 4 = .ok (.if_acmp .ne 14, 3) := by decide +kernel
theorem dX6_compares_7 : decode cX6_compares 7 = .ok (.iload_n 0, 1) := by decide +kernel
theorem dX6_compares_8 : decode cX6_compares 8 = .ok (.iload_n 2, 1) := by decide +kernel
theorem dX6_compares_9 : decode cX6_compares 9 = .ok (.if_icmp .ge 7, 3) := by decide +kernel
theorem dX6_compares_12 : decode cX6_compares 12 = .ok (.iconst 1, 1) := by decide +kernel
theorem dX6_compares_13 : decode cX6_compares 13 = .ok (.goto 4, 3) := by decide +kernel
theorem dX6_compares_16 : decode cX6_compares 16 = .ok (.iconst 0, 1) := by decide +kernel
theorem dX6_compares_17 : decode cX6_compares 17 = .ok (.ireturn, 1) := by decide +kernel
theorem dX6_compares_18 : decode cX6_compares 18 = .ok (.aload_n 1, 1) := by decide +kernel
theorem dX6_compares_19 : decode cX6_compares 19 = .ok (.getstatic 91, 3) := by decide +kernel
theorem dX6_compares_22 : decode cX6_compares 22 = .ok (.if_acmp .ne 16, 3) := by decide +kernel
theorem dX6_compares_25 : decode cX6_compares 25 = .ok (.iload_n 0, 1) := by decide +kernel
theorem dX6_compares_26 : decode cX6_compares 26 = .ok (.iload_n 2, 1) := by decide +kernel
theorem dX6_compares_27 : decode cX6_compares 27 = .ok (.if_icmp .le 7, 3) := by decide +kernel
theorem dX6_compares_30 : decode cX6_compares 30 = .ok (.iconst 1, 1) := by decide +kernel
theorem dX6_compares_31 : decode cX6_compares 31 = .ok (.goto 17, 3) := by decide +kernel
theorem dX6_compares_34 : decode cX6_compares 34 = .ok (.iconst 0, 1) := by decide +kernel
theorem dX6_compares_35 : decode cX6_compares 35 = .ok (.goto 13, 3) := by decide +kernel
theorem dX6_compares_38 : decode cX6_compares 38 = .ok (.iload_n 0, 1) := by decide +kernel
theorem dX6_compares_39 : decode cX6_compares 39 = .ok (.iload_n 2, 1) := by decide +kernel
theorem dX6_compares_40 : decode cX6_compares 40 = .ok (.if_icmp .ne 7, 3) := by decide +kernel
theorem dX6_compares_43 : decode cX6_compares 43 = .ok (.iconst 1, 1) := by decide +kernel
theorem dX6_compares_44 : decode cX6_compares 44 = .ok (.goto 4, 3) := by decide +kernel
theorem dX6_compares_47 : decode cX6_compares 47 = .ok (.iconst 0, 1) := by decide +kernel
theorem dX6_compares_48 : decode cX6_compares 48 = .ok (.ireturn, 1) := by decide +kernel
theorem dX6_readValue_0 : decode cX6_readValue 0 = .ok (.aload_n 0, 1) := by decide +kernel
theorem dX6_readValue_1 : decode cX6_readValue 1 = .ok (.getfield 18, 3) := by decide +kernel
theorem dX6_readValue_4 : decode cX6_readValue 4 = .ok (.sipush 16384, 3) := by decide +kernel
theorem dX6_readValue_7 : decode cX6_readValue 7 = .ok (.invokevirtual 94, 3) := by decide +kernel
theorem dX6_readValue_10 : decode cX6_readValue 10 = .ok (.astore_n 2, 1) := by decide +kernel
theorem dX6_readValue_11 : decode cX6_readValue 11 = .ok (.aload_n 2, 1) := by decide +kernel
theorem dX6_readValue_12 : decode cX6_readValue 12 = .ok (.getstatic 97, 3) := by decide +kernel
theorem dX6_readValue_15 : decode cX6_readValue 15 = .ok (.if_acmp .ne 16, 3) := by decide +kernel
theorem dX6_readValue_18 : decode cX6_readValue 18 = .ok (.aload_n 0, 1) := by decide +kernel
theorem dX6_readValue_19 : decode cX6_readValue 19 = .ok (.getfield 18, 3) := by decide +kernel
theorem dX6_readValue_22 : decode cX6_readValue 22 = .ok (.iconst 0, 1) := by decide +kernel
theorem dX6_readValue_23 : decode cX6_readValue 23 = .ok (.ldc 100, 2) := by decide +kernel
theorem dX6_readValue_25 : decode cX6_readValue 25 = .ok (.invokevirtual 101, 3) := by decide +kernel
theorem dX6_readValue_28 : decode cX6_readValue 28 = .ok (.goto 4, 3) := by decide +kernel
theorem dX6_readValue_31 : decode cX6_readValue 31 = .ok (.iconst 0, 1) := by decide +kernel
theorem dX6_readValue_32 : decode cX6_readValue 32 = .ok (.istore_n 3, 1) := by decide +kernel
theorem dX6_readValue_33 : decode cX6_readValue 33 = .ok (.iconst 0, 1) := by decide +kernel
theorem dX6_readValue_34 : decode cX6_readValue 34 = .ok (.istore 4, 2) := by decide +kernel
theorem dX6_readValue_36 : decode cX6_readValue 36 = .ok (.iload 4, 2) := by decide +kernel
theorem dX6_readValue_38 : decode cX6_readValue 38 = .ok (.iconst 4, 1) := by decide +kernel
theorem dX6_readValue_39 : decode cX6_readValue 39 = .ok (.if_icmp .ge 38, 3) := by decide +kernel
theorem dX6_readValue_42 : decode cX6_readValue 42 = .ok (.iload 4, 2) := by decide +kernel
theorem dX6_readValue_44 : decode cX6_readValue 44 = .ok (.aload_n 1, 1) := by decide +kernel
theorem dX6_readValue_45 : decode cX6_readValue 45 = .ok (.arraylength, 1) := by decide +kernel
theorem dX6_readValue_46 : decode cX6_readValue 46 = .ok (.if_icmp .ge 31, 3) := by decide +kernel
theorem dX6_readValue_49 : decode cX6_readValue 49 = .ok (.aload_n 1, 1) := by decide +kernel
theorem dX6_readValue_50 : decode cX6_readValue 50 = .ok (.iload 4, 2) := by decide +kernel
theorem dX6_readValue_52 : decode cX6_readValue 52 = .ok (.aload_n 2, 1) := by decide +kernel
theorem dX6_readValue_53 : decode cX6_readValue 53 = .ok (.getstatic 97, 3) := by decide +kernel
theorem dX6_readValue_56 : decode cX6_readValue 56 = .ok (.if_acmp .ne 7, 3) := by decide +kernel
theorem dX6_readValue_59 : decode cX6_readValue 59 = .ok (.iload_n 3, 1) := by decide +kernel
theorem dX6_readValue_60 : decode cX6_readValue 60 = .ok (.goto 10, 3) := by decide +kernel
theorem dX6_readValue_63 : decode cX6_readValue 63 = .ok (.aload_n 0, 1) := by decide +kernel
theorem dX6_readValue_64 : decode cX6_readValue 64 = .ok (.iload 4, 2) := by decide +kernel
theorem dX6_readValue_66 : decode cX6_readValue 66 = .ok (.aload_n 2, 1) := by decide +kernel
theorem dX6_readValue_67 : decode cX6_readValue 67 = .ok (.invokevirtual 105, 3) := by decide +kernel
theorem dX6_readValue_70 : decode cX6_readValue 70 = .ok (.iastore, 1) := by decide +kernel
theorem dX6_readValue_71 : decode cX6_readValue 71 = .ok (.iinc 4 1, 3) := by decide +kernel
theorem dX6_readValue_74 : decode cX6_readValue 74 = .ok (.goto (-38), 3) := by decide +kernel
theorem dX6_readValue_77 : decode cX6_readValue 77 = .ok (.return_, 1) := by decide +kernel
theorem dX6_propertyOf_0 : decode cX6_propertyOf 0 = .ok (.aload_n 0, 1) := by decide +kernel
theorem dX6_propertyOf_1 : decode cX6_propertyOf 1 = .ok (.getfield 22, 3) := by decide +kernel
theorem dX6_propertyOf_4 : decode cX6_propertyOf 4 = .ok (.getfield 109, 3) := by decide +kernel
theorem dX6_propertyOf_7 : decode cX6_propertyOf 7 = .ok (.iload_n 1, 1) := by decide +kernel
theorem dX6_propertyOf_8 : decode cX6_propertyOf 8 = .ok (.aaload, 1) := by decide +kernel
theorem dX6_propertyOf_9 : decode cX6_propertyOf 9 = .ok (.astore_n 3, 1) := by decide +kernel
theorem dX6_propertyOf_10 : decode cX6_propertyOf 10 = .ok (.getstatic 115, 3) := by decide +kernel
theorem dX6_propertyOf_13 : decode cX6_propertyOf 13 = .ok (.aload_n 2, 1) := by decide +kernel
theorem dX6_propertyOf_14 : decode cX6_propertyOf 14 = .ok (.invokevirtual 120, 3) := by decide +kernel
theorem dX6_propertyOf_17 : decode cX6_propertyOf 17 = .ok (.iaload, 1) := by decide +kernel
theorem dX6_propertyOf_18 : decode cX6_propertyOf 18 = .ok (.tableswitch 181 20 47 #[133, 138, 143, 148, 181, 181, 128, 181, 181, 181, 181, 181, 181, 181, 181, 181, 181, 181, 181, 181, 181, 181, 126, 153, 158, 163, 168, 173], 126) := by decide +kernel
theorem dX6_propertyOf_144 : decode cX6_propertyOf 144 = .ok (.iload_n 1, 1) := by decide +kernel
theorem dX6_propertyOf_145 : decode cX6_propertyOf 145 = .ok (.ireturn, 1) := by decide +kernel
theorem dX6_propertyOf_146 : decode cX6_propertyOf 146 = .ok (.aload_n 3, 1) := by decide +kernel
theorem dX6_propertyOf_147 : decode cX6_propertyOf 147 = .ok (.getfield 123, 3) := by decide +kernel
theorem dX6_propertyOf_150 : decode cX6_propertyOf 150 = .ok (.ireturn, 1) := by decide +kernel
theorem dX6_propertyOf_151 : decode cX6_propertyOf 151 = .ok (.aload_n 3, 1) := by decide +kernel
theorem dX6_propertyOf_152 : decode cX6_propertyOf 152 = .ok (.getfield 129, 3) := by decide +kernel
theorem dX6_propertyOf_155 : decode cX6_propertyOf 155 = .ok (.ireturn, 1) := by decide +kernel
theorem dX6_propertyOf_156 : decode cX6_propertyOf 156 = .ok (.aload_n 3, 1) := by decide +kernel
theorem dX6_propertyOf_157 : decode cX6_propertyOf 157 = .ok (.getfield 132, 3) := by decide +kernel
theorem dX6_propertyOf_160 : decode cX6_propertyOf 160 = .ok (.ireturn, 1) := by decide +kernel
theorem dX6_propertyOf_161 : decode cX6_propertyOf 161 = .ok (.aload_n 3, 1) := by decide +kernel
theorem dX6_propertyOf_162 : decode cX6_propertyOf 162 = .ok (.getfield 135, 3) := by decide +kernel
theorem dX6_propertyOf_165 : decode cX6_propertyOf 165 = .ok (.ireturn, 1) := by decide +kernel
theorem dX6_propertyOf_166 : decode cX6_propertyOf 166 = .ok (.aload_n 3, 1) := by decide +kernel
theorem dX6_propertyOf_167 : decode cX6_propertyOf 167 = .ok (.getfield 138, 3) := by decide +kernel
theorem dX6_propertyOf_170 : decode cX6_propertyOf 170 = .ok (.ireturn, 1) := by decide +kernel
theorem dX6_propertyOf_171 : decode cX6_propertyOf 171 = .ok (.aload_n 3, 1) := by decide +kernel
theorem dX6_propertyOf_172 : decode cX6_propertyOf 172 = .ok (.getfield 141, 3) := by decide +kernel
theorem dX6_propertyOf_175 : decode cX6_propertyOf 175 = .ok (.ireturn, 1) := by decide +kernel
theorem dX6_propertyOf_176 : decode cX6_propertyOf 176 = .ok (.aload_n 3, 1) := by decide +kernel
theorem dX6_propertyOf_177 : decode cX6_propertyOf 177 = .ok (.getfield 144, 3) := by decide +kernel
theorem dX6_propertyOf_180 : decode cX6_propertyOf 180 = .ok (.ireturn, 1) := by decide +kernel
theorem dX6_propertyOf_181 : decode cX6_propertyOf 181 = .ok (.aload_n 3, 1) := by decide +kernel
theorem dX6_propertyOf_182 : decode cX6_propertyOf 182 = .ok (.getfield 147, 3) := by decide +kernel
theorem dX6_propertyOf_185 : decode cX6_propertyOf 185 = .ok (.ireturn, 1) := by decide +kernel
theorem dX6_propertyOf_186 : decode cX6_propertyOf 186 = .ok (.aload_n 3, 1) := by decide +kernel
theorem dX6_propertyOf_187 : decode cX6_propertyOf 187 = .ok (.getfield 150, 3) := by decide +kernel
theorem dX6_propertyOf_190 : decode cX6_propertyOf 190 = .ok (.ireturn, 1) := by decide +kernel
theorem dX6_propertyOf_191 : decode cX6_propertyOf 191 = .ok (.aload_n 3, 1) := by decide +kernel
theorem dX6_propertyOf_192 : decode cX6_propertyOf 192 = .ok (.getfield 153, 3) := by decide +kernel
theorem dX6_propertyOf_195 : decode cX6_propertyOf 195 = .ok (.getfield 157, 3) := by decide +kernel
theorem dX6_propertyOf_198 : decode cX6_propertyOf 198 = .ok (.ireturn, 1) := by decide +kernel
theorem dX6_propertyOf_199 : decode cX6_propertyOf 199 = .ok (.aload_n 3, 1) := by decide +kernel
theorem dX6_propertyOf_200 : decode cX6_propertyOf 200 = .ok (.getfield 162, 3) := by decide +kernel
theorem dX6_propertyOf_203 : decode cX6_propertyOf 203 = .ok (.getfield 157, 3) := by decide +kernel
theorem dX6_propertyOf_206 : decode cX6_propertyOf 206 = .ok (.ireturn, 1) := by decide +kernel
theorem dX7_init_0 : decode cX7_init 0 = .ok (.aload_n 0, 1) := by decide +kernel
theorem dX7_init_1 : decode cX7_init 1 = .ok (.invokespecial 3, 3) := by decide +kernel
theorem dX7_init_4 : decode cX7_init 4 = .ok (.aload_n 0, 1) := by decide +kernel
theorem dX7_init_5 : decode cX7_init 5 = .ok (.iconst 0, 1) := by decide +kernel
theorem dX7_init_6 : decode cX7_init 6 = .ok (.putfield 9, 3) := by decide +kernel
theorem dX7_init_9 : decode cX7_init 9 = .ok (.aload_n 0, 1) := by decide +kernel
theorem dX7_init_10 : decode cX7_init 10 = .ok (.iconst 0, 1) := by decide +kernel
theorem dX7_init_11 : decode cX7_init 11 = .ok (.putfield 15, 3) := by decide +kernel
theorem dX7_init_14 : decode cX7_init 14 = .ok (.aload_n 0, 1) := by decide +kernel
theorem dX7_init_15 : decode cX7_init 15 = .ok (.iconst 0, 1) := by decide +kernel
theorem dX7_init_16 : decode cX7_init 16 = .ok (.putfield 18, 3) := by decide +kernel
theorem dX7_init_19 : decode cX7_init 19 = .ok (.aload_n 0, 1) := by decide +kernel
theorem dX7_init_20 : decode cX7_init 20 = .ok (.bipush 8, 2) := by decide +kernel
theorem dX7_init_22 : decode cX7_init 22 = .ok (.newarray .int, 2) := by decide +kernel
theorem dX7_init_24 : decode cX7_init 24 = .ok (.putfield 21, 3) := by decide +kernel
theorem dX7_init_27 : decode cX7_init 27 = .ok (.return_, 1) := by decide +kernel
theorem dX7_clear_0 : decode cX7_clear 0 = .ok (.aload_n 0, 1) := by decide +kernel
theorem dX7_clear_1 : decode cX7_clear 1 = .ok (.iconst 0, 1) := by decide +kernel
theorem dX7_clear_2 : decode cX7_clear 2 = .ok (.putfield 9, 3) := by decide +kernel
theorem dX7_clear_5 : decode cX7_clear 5 = .ok (.aload_n 0, 1) := by decide +kernel
theorem dX7_clear_6 : decode cX7_clear 6 = .ok (.iconst 0, 1) := by decide +kernel
theorem dX7_clear_7 : decode cX7_clear 7 = .ok (.putfield 18, 3) := by decide +kernel
theorem dX7_clear_10 : decode cX7_clear 10 = .ok (.aload_n 0, 1) := by decide +kernel
theorem dX7_clear_11 : decode cX7_clear 11 = .ok (.iconst 0, 1) := by decide +kernel
theorem dX7_clear_12 : decode cX7_clear 12 = .ok (.iload_n 1, 1) := by decide +kernel
theorem dX7_clear_13 : decode cX7_clear 13 = .ok (.bipush 8, 2) := by decide +kernel
theorem dX7_clear_15 : decode cX7_clear 15 = .ok (.invokestatic 25, 3) := by decide +kernel
theorem dX7_clear_18 : decode cX7_clear 18 = .ok (.invokestatic 31, 3) := by decide +kernel
theorem dX7_clear_21 : decode cX7_clear 21 = .ok (.putfield 15, 3) := by decide +kernel
theorem dX7_clear_24 : decode cX7_clear 24 = .ok (.return_, 1) := by decide +kernel
theorem dX7_copyFrom_0 : decode cX7_copyFrom 0 = .ok (.aload_n 0, 1) := by decide +kernel
theorem dX7_copyFrom_1 : decode cX7_copyFrom 1 = .ok (.aload_n 1, 1) := by decide +kernel
theorem dX7_copyFrom_2 : decode cX7_copyFrom 2 = .ok (.getfield 9, 3) := by decide +kernel
theorem dX7_copyFrom_5 : decode cX7_copyFrom 5 = .ok (.putfield 9, 3) := by decide +kernel
theorem dX7_copyFrom_8 : decode cX7_copyFrom 8 = .ok (.aload_n 0, 1) := by decide +kernel
theorem dX7_copyFrom_9 : decode cX7_copyFrom 9 = .ok (.aload_n 1, 1) := by decide +kernel
theorem dX7_copyFrom_10 : decode cX7_copyFrom 10 = .ok (.getfield 15, 3) := by decide +kernel
theorem dX7_copyFrom_13 : decode cX7_copyFrom 13 = .ok (.putfield 15, 3) := by decide +kernel
theorem dX7_copyFrom_16 : decode cX7_copyFrom 16 = .ok (.aload_n 0, 1) := by decide +kernel
theorem dX7_copyFrom_17 : decode cX7_copyFrom 17 = .ok (.aload_n 1, 1) := by decide +kernel
theorem dX7_copyFrom_18 : decode cX7_copyFrom 18 = .ok (.getfield 18, 3) := by decide +kernel
theorem dX7_copyFrom_21 : decode cX7_copyFrom 21 = .ok (.putfield 18, 3) := by decide +kernel
theorem dX7_copyFrom_24 : decode cX7_copyFrom 24 = .ok (.aload_n 1, 1) := by decide +kernel
theorem dX7_copyFrom_25 : decode cX7_copyFrom 25 = .ok (.getfield 21, 3) := by decide +kernel
theorem dX7_copyFrom_28 : decode cX7_copyFrom 28 = .ok (.iconst 0, 1) := by decide +kernel
theorem dX7_copyFrom_29 : decode cX7_copyFrom 29 = .ok (.aload_n 0, 1) := by decide +kernel
theorem dX7_copyFrom_30 : decode cX7_copyFrom 30 = .ok (.getfield 21, 3) := by decide +kernel
theorem dX7_copyFrom_33 : decode cX7_copyFrom 33 = .ok (.iconst 0, 1) := by decide +kernel
theorem dX7_copyFrom_34 : decode cX7_copyFrom 34 = .ok (.bipush 8, 2) := by decide +kernel
theorem dX7_copyFrom_36 : decode cX7_copyFrom 36 = .ok (.invokestatic 34, 3) := by decide +kernel
theorem dX7_copyFrom_39 : decode cX7_copyFrom 39 = .ok (.return_, 1) := by decide +kernel
theorem dX7_isFull_0 : decode cX7_isFull 0 = .ok (.aload_n 0, 1) := by decide +kernel
theorem dX7_isFull_1 : decode cX7_isFull 1 = .ok (.getfield 9, 3) := by decide +kernel
theorem dX7_isFull_4 : decode cX7_isFull 4 = .ok (.aload_n 0, 1) := by decide +kernel
theorem dX7_isFull_5 : decode cX7_isFull 5 = .ok (.getfield 15, 3) := by decide +kernel
theorem dX7_isFull_8 : decode cX7_isFull 8 = .ok (.if_icmp .lt 7, 3) := by decide +kernel
theorem dX7_isFull_11 : decode cX7_isFull 11 = .ok (.iconst 1, 1) := by decide +kernel
theorem dX7_isFull_12 : decode cX7_isFull 12 = .ok (.goto 4, 3) := by decide +kernel
theorem dX7_isFull_15 : decode cX7_isFull 15 = .ok (.iconst 0, 1) := by decide +kernel
theorem dX7_isFull_16 : decode cX7_isFull 16 = .ok (.ireturn, 1) := by decide +kernel
theorem dX7_append_0 : decode cX7_append 0 = .ok (.aload_n 0, 1) := by decide +kernel
theorem dX7_append_1 : decode cX7_append 1 = .ok (.invokevirtual 40, 3) := by decide +kernel
theorem dX7_append_4 : decode cX7_append 4 = .ok (.ifCond .ne 31, 3) := by decide +kernel
theorem dX7_append_7 : decode cX7_append 7 = .ok (.aload_n 0, 1) := by decide +kernel
theorem dX7_append_8 : decode cX7_append 8 = .ok (.getfield 21, 3) := by decide +kernel
theorem dX7_append_11 : decode cX7_append 11 = .ok (.aload_n 0, 1) := by decide +kernel
theorem dX7_append_12 : decode cX7_append 12 = .ok (.getfield 18, 3) := by decide +kernel
theorem dX7_append_15 : decode cX7_append 15 = .ok (.aload_n 0, 1) := by decide +kernel
theorem dX7_append_16 : decode cX7_append 16 = .ok (.getfield 9, 3) := by decide +kernel
theorem dX7_append_19 : decode cX7_append 19 = .ok (.iadd, 1) := by decide +kernel
theorem dX7_append_20 : decode cX7_append 20 = .ok (.bipush 8, 2) := by decide +kernel
theorem dX7_append_22 : decode cX7_append 22 = .ok (.irem, 1) := by decide +kernel
theorem dX7_append_23 : decode cX7_append 23 = .ok (.iload_n 1, 1) := by decide +kernel
theorem dX7_append_24 : decode cX7_append 24 = .ok (.iastore, 1) := by decide +kernel
theorem dX7_append_25 : decode cX7_append 25 = .ok (.aload_n 0, 1) := by decide +kernel
theorem dX7_append_26 : decode cX7_append 26 = .ok (.dup, 1) := by decide +kernel
theorem dX7_append_27 : decode cX7_append 27 = .ok (.getfield 9, 3) := by decide +kernel
theorem dX7_append_30 : decode cX7_append 30 = .ok (.iconst 1, 1) := by decide +kernel
theorem dX7_append_31 : decode cX7_append 31 = .ok (.iadd, 1) := by decide +kernel
theorem dX7_append_32 : decode cX7_append 32 = .ok (.putfield 9, 3) := by decide +kernel
theorem dX7_append_35 : decode cX7_append 35 = .ok (.return_, 1) := by decide +kernel
theorem dX7_removeFirst_0 : decode cX7_removeFirst 0 = .ok (.aload_n 0, 1) := by decide +kernel
theorem dX7_removeFirst_1 : decode cX7_removeFirst 1 = .ok (.getfield 9, 3) := by decide +kernel
theorem dX7_removeFirst_4 : decode cX7_removeFirst 4 = .ok (.ifCond .ne 5, 3) := by decide +kernel
theorem dX7_removeFirst_7 : decode cX7_removeFirst 7 = .ok (.iconst 0, 1) := by decide +kernel
theorem dX7_removeFirst_8 : decode cX7_removeFirst 8 = .ok (.ireturn, 1) := by decide +kernel
theorem dX7_removeFirst_9 : decode cX7_removeFirst 9 = .ok (.aload_n 0, 1) := by decide +kernel
theorem dX7_removeFirst_10 : decode cX7_removeFirst 10 = .ok (.getfield 21, 3) := by decide +kernel
theorem dX7_removeFirst_13 : decode cX7_removeFirst 13 = .ok (.aload_n 0, 1) := by decide +kernel
theorem dX7_removeFirst_14 : decode cX7_removeFirst 14 = .ok (.getfield 18, 3) := by decide +kernel
theorem dX7_removeFirst_17 : decode cX7_removeFirst 17 = .ok (.iaload, 1) := by decide +kernel
theorem dX7_removeFirst_18 : decode cX7_removeFirst 18 = .ok (.istore_n 1, 1) := by decide +kernel
theorem dX7_removeFirst_19 : decode cX7_removeFirst 19 = .ok (.aload_n 0, 1) := by decide +kernel
theorem dX7_removeFirst_20 : decode cX7_removeFirst 20 = .ok (.aload_n 0, 1) := by decide +kernel
theorem dX7_removeFirst_21 : decode cX7_removeFirst 21 = .ok (.getfield 18, 3) := by decide +kernel
theorem dX7_removeFirst_24 : decode cX7_removeFirst 24 = .ok (.iconst 1, 1) := by decide +kernel
theorem dX7_removeFirst_25 : decode cX7_removeFirst 25 = .ok (.iadd, 1) := by decide +kernel
theorem dX7_removeFirst_26 : decode cX7_removeFirst 26 = .ok (.bipush 8, 2) := by decide +kernel
theorem dX7_removeFirst_28 : decode cX7_removeFirst 28 = .ok (.irem, 1) := by decide +kernel
theorem dX7_removeFirst_29 : decode cX7_removeFirst 29 = .ok (.putfield 18, 3) := by decide +kernel
theorem dX7_removeFirst_32 : decode cX7_removeFirst 32 = .ok (.aload_n 0, 1) := by decide +kernel
theorem dX7_removeFirst_33 : decode cX7_removeFirst 33 = .ok (.dup, 1) := by decide +kernel
theorem dX7_removeFirst_34 : decode cX7_removeFirst 34 = .ok (.getfield 9, 3) := by decide +kernel
theorem dX7_removeFirst_37 : decode cX7_removeFirst 37 = .ok (.iconst 1, 1) := by decide +kernel
theorem dX7_removeFirst_38 : decode cX7_removeFirst 38 = .ok (.isub, 1) := by decide +kernel
theorem dX7_removeFirst_39 : decode cX7_removeFirst 39 = .ok (.putfield 9, 3) := by decide +kernel
theorem dX7_removeFirst_42 : decode cX7_removeFirst 42 = .ok (.iload_n 1, 1) := by decide +kernel
theorem dX7_removeFirst_43 : decode cX7_removeFirst 43 = .ok (.ireturn, 1) := by decide +kernel
theorem dX7_wordAt_0 : decode cX7_wordAt 0 = .ok (.iload_n 1, 1) := by decide +kernel
theorem dX7_wordAt_1 : decode cX7_wordAt 1 = .ok (.ifCond .lt 11, 3) := by decide +kernel
theorem dX7_wordAt_4 : decode cX7_wordAt 4 = .ok (.iload_n 1, 1) := by decide +kernel
theorem dX7_wordAt_5 : decode cX7_wordAt 5 = .ok (.aload_n 0, 1) := by decide +kernel
theorem dX7_wordAt_6 : decode cX7_wordAt 6 = .ok (.getfield 9, 3) := by decide +kernel
theorem dX7_wordAt_9 : decode cX7_wordAt 9 = .ok (.if_icmp .lt 7, 3) := by decide +kernel
theorem dX7_wordAt_12 : decode cX7_wordAt 12 = .ok (.iconst 0, 1) := by decide +kernel
theorem dX7_wordAt_13 : decode cX7_wordAt 13 = .ok (.goto 17, 3) := by decide +kernel
theorem dX7_wordAt_16 : decode cX7_wordAt 16 = .ok (.aload_n 0, 1) := by decide +kernel
theorem dX7_wordAt_17 : decode cX7_wordAt 17 = .ok (.getfield 21, 3) := by decide +kernel
theorem dX7_wordAt_20 : decode cX7_wordAt 20 = .ok (.aload_n 0, 1) := by decide +kernel
theorem dX7_wordAt_21 : decode cX7_wordAt 21 = .ok (.getfield 18, 3) := by decide +kernel
theorem dX7_wordAt_24 : decode cX7_wordAt 24 = .ok (.iload_n 1, 1) := by decide +kernel
theorem dX7_wordAt_25 : decode cX7_wordAt 25 = .ok (.iadd, 1) := by decide +kernel
theorem dX7_wordAt_26 : decode cX7_wordAt 26 = .ok (.bipush 8, 2) := by decide +kernel
theorem dX7_wordAt_28 : decode cX7_wordAt 28 = .ok (.irem, 1) := by decide +kernel
theorem dX7_wordAt_29 : decode cX7_wordAt 29 = .ok (.iaload, 1) := by decide +kernel
theorem dX7_wordAt_30 : decode cX7_wordAt 30 = .ok (.ireturn, 1) := by decide +kernel
theorem dX8_init_0 : decode cX8_init 0 = .ok (.aload_n 0, 1) := by decide +kernel
theorem dX8_init_1 : decode cX8_init 1 = .ok (.invokespecial 3, 3) := by decide +kernel
theorem dX8_init_4 : decode cX8_init 4 = .ok (.aload_n 0, 1) := by decide +kernel
theorem dX8_init_5 : decode cX8_init 5 = .ok (.invokevirtual 9, 3) := by decide +kernel
theorem dX8_init_8 : decode cX8_init 8 = .ok (.return_, 1) := by decide +kernel
theorem dX8_clear_0 : decode cX8_clear 0 = .ok (.aload_n 0, 1) := by decide +kernel
theorem dX8_clear_1 : decode cX8_clear 1 = .ok (.iconst 0, 1) := by decide +kernel
theorem dX8_clear_2 : decode cX8_clear 2 = .ok (.putfield 14, 3) := by decide +kernel
theorem dX8_clear_5 : decode cX8_clear 5 = .ok (.aload_n 0, 1) := by decide +kernel
theorem dX8_clear_6 : decode cX8_clear 6 = .ok (.iconst 0, 1) := by decide +kernel
theorem dX8_clear_7 : decode cX8_clear 7 = .ok (.putfield 18, 3) := by decide +kernel
theorem dX8_clear_10 : decode cX8_clear 10 = .ok (.aload_n 0, 1) := by decide +kernel
theorem dX8_clear_11 : decode cX8_clear 11 = .ok (.iconst 0, 1) := by decide +kernel
theorem dX8_clear_12 : decode cX8_clear 12 = .ok (.putfield 22, 3) := by decide +kernel
theorem dX8_clear_15 : decode cX8_clear 15 = .ok (.aload_n 0, 1) := by decide +kernel
theorem dX8_clear_16 : decode cX8_clear 16 = .ok (.iconst (-1), 1) := by decide +kernel
theorem dX8_clear_17 : decode cX8_clear 17 = .ok (.putfield 25, 3) := by decide +kernel
theorem dX8_clear_20 : decode cX8_clear 20 = .ok (.aload_n 0, 1) := by decide +kernel
theorem dX8_clear_21 : decode cX8_clear 21 = .ok (.sipush 256, 3) := by decide +kernel
theorem dX8_clear_24 : decode cX8_clear 24 = .ok (.putfield 28, 3) := by decide +kernel
theorem dX8_clear_27 : decode cX8_clear 27 = .ok (.aload_n 0, 1) := by decide +kernel
theorem dX8_clear_28 : decode cX8_clear 28 = .ok (.iconst 0, 1) := by decide +kernel
theorem dX8_clear_29 : decode cX8_clear 29 = .ok (.putfield 31, 3) := by decide +kernel
theorem dX8_clear_32 : decode cX8_clear 32 = .ok (.aload_n 0, 1) := by decide +kernel
theorem dX8_clear_33 : decode cX8_clear 33 = .ok (.iconst 0, 1) := by decide +kernel
theorem dX8_clear_34 : decode cX8_clear 34 = .ok (.putfield 34, 3) := by decide +kernel
theorem dX8_clear_37 : decode cX8_clear 37 = .ok (.aload_n 0, 1) := by decide +kernel
theorem dX8_clear_38 : decode cX8_clear 38 = .ok (.iconst 0, 1) := by decide +kernel
theorem dX8_clear_39 : decode cX8_clear 39 = .ok (.putfield 37, 3) := by decide +kernel
theorem dX8_clear_42 : decode cX8_clear 42 = .ok (.aload_n 0, 1) := by decide +kernel
theorem dX8_clear_43 : decode cX8_clear 43 = .ok (.iconst 0, 1) := by decide +kernel
theorem dX8_clear_44 : decode cX8_clear 44 = .ok (.putfield 40, 3) := by decide +kernel
theorem dX8_clear_47 : decode cX8_clear 47 = .ok (.aload_n 0, 1) := by decide +kernel
theorem dX8_clear_48 : decode cX8_clear 48 = .ok (.iconst 0, 1) := by decide +kernel
theorem dX8_clear_49 : decode cX8_clear 49 = .ok (.putfield 43, 3) := by decide +kernel
theorem dX8_clear_52 : decode cX8_clear 52 = .ok (.aload_n 0, 1) := by decide +kernel
theorem dX8_clear_53 : decode cX8_clear 53 = .ok (.iconst 0, 1) := by decide +kernel
theorem dX8_clear_54 : decode cX8_clear 54 = .ok (.putfield 46, 3) := by decide +kernel
theorem dX8_clear_57 : decode cX8_clear 57 = .ok (.aload_n 0, 1) := by decide +kernel
theorem dX8_clear_58 : decode cX8_clear 58 = .ok (.iconst 0, 1) := by decide +kernel
theorem dX8_clear_59 : decode cX8_clear 59 = .ok (.putfield 49, 3) := by decide +kernel
theorem dX8_clear_62 : decode cX8_clear 62 = .ok (.aload_n 0, 1) := by decide +kernel
theorem dX8_clear_63 : decode cX8_clear 63 = .ok (.iconst 0, 1) := by decide +kernel
theorem dX8_clear_64 : decode cX8_clear 64 = .ok (.putfield 52, 3) := by decide +kernel
theorem dX8_clear_67 : decode cX8_clear 67 = .ok (.aload_n 0, 1) := by decide +kernel
theorem dX8_clear_68 : decode cX8_clear 68 = .ok (.iconst 0, 1) := by decide +kernel
theorem dX8_clear_69 : decode cX8_clear 69 = .ok (.putfield 55, 3) := by decide +kernel
theorem dX8_clear_72 : decode cX8_clear 72 = .ok (.aload_n 0, 1) := by decide +kernel
theorem dX8_clear_73 : decode cX8_clear 73 = .ok (.iconst 0, 1) := by decide +kernel
theorem dX8_clear_74 : decode cX8_clear 74 = .ok (.putfield 58, 3) := by decide +kernel
theorem dX8_clear_77 : decode cX8_clear 77 = .ok (.aload_n 0, 1) := by decide +kernel
theorem dX8_clear_78 : decode cX8_clear 78 = .ok (.iconst 0, 1) := by decide +kernel
theorem dX8_clear_79 : decode cX8_clear 79 = .ok (.putfield 61, 3) := by decide +kernel
theorem dX8_clear_82 : decode cX8_clear 82 = .ok (.aload_n 0, 1) := by decide +kernel
theorem dX8_clear_83 : decode cX8_clear 83 = .ok (.iconst 0, 1) := by decide +kernel
theorem dX8_clear_84 : decode cX8_clear 84 = .ok (.putfield 64, 3) := by decide +kernel
theorem dX8_clear_87 : decode cX8_clear 87 = .ok (.aload_n 0, 1) := by decide +kernel
theorem dX8_clear_88 : decode cX8_clear 88 = .ok (.bipush 32, 2) := by decide +kernel
theorem dX8_clear_90 : decode cX8_clear 90 = .ok (.putfield 67, 3) := by decide +kernel
theorem dX8_clear_93 : decode cX8_clear 93 = .ok (.aload_n 0, 1) := by decide +kernel
theorem dX8_clear_94 : decode cX8_clear 94 = .ok (.bipush 32, 2) := by decide +kernel
theorem dX8_clear_96 : decode cX8_clear 96 = .ok (.putfield 70, 3) := by decide +kernel
theorem dX8_clear_99 : decode cX8_clear 99 = .ok (.aload_n 0, 1) := by decide +kernel
theorem dX8_clear_100 : decode cX8_clear 100 = .ok (.iconst 4, 1) := by decide +kernel
theorem dX8_clear_101 : decode cX8_clear 101 = .ok (.putfield 73, 3) := by decide +kernel
theorem dX8_clear_104 : decode cX8_clear 104 = .ok (.return_, 1) := by decide +kernel
theorem dX8_outputRoom_0 : decode cX8_outputRoom 0 = .ok (.bipush 8, 2) := by decide +kernel
theorem dX8_outputRoom_2 : decode cX8_outputRoom 2 = .ok (.aload_n 0, 1) := by decide +kernel
theorem dX8_outputRoom_3 : decode cX8_outputRoom 3 = .ok (.getfield 73, 3) := by decide +kernel
theorem dX8_outputRoom_6 : decode cX8_outputRoom 6 = .ok (.isub, 1) := by decide +kernel
theorem dX8_outputRoom_7 : decode cX8_outputRoom 7 = .ok (.ireturn, 1) := by decide +kernel
theorem dX9_init_0 : decode cX9_init 0 = .ok (.aload_n 0, 1) := by decide +kernel
theorem dX9_init_1 : decode cX9_init 1 = .ok (.invokespecial 3, 3) := by decide +kernel
theorem dX9_init_4 : decode cX9_init 4 = .ok (.aload_n 0, 1) := by decide +kernel
theorem dX9_init_5 : decode cX9_init 5 = .ok (.aload_n 1, 1) := by decide +kernel
theorem dX9_init_6 : decode cX9_init 6 = .ok (.putfield 9, 3) := by decide +kernel
theorem dX9_init_9 : decode cX9_init 9 = .ok (.aload_n 0, 1) := by decide +kernel
theorem dX9_init_10 : decode cX9_init 10 = .ok (.aload_n 2, 1) := by decide +kernel
theorem dX9_init_11 : decode cX9_init 11 = .ok (.putfield 15, 3) := by decide +kernel
theorem dX9_init_14 : decode cX9_init 14 = .ok (.return_, 1) := by decide +kernel
theorem dX9_simulateCycle_0 : decode cX9_simulateCycle 0 = .ok (.aload_n 0, 1) := by decide +kernel
theorem dX9_simulateCycle_1 : decode cX9_simulateCycle 1 = .ok (.aload_n 1, 1) := by decide +kernel
theorem dX9_simulateCycle_2 : decode cX9_simulateCycle 2 = .ok (.putfield 15, 3) := by decide +kernel
theorem dX9_simulateCycle_5 : decode cX9_simulateCycle 5 = .ok (.aload_n 0, 1) := by decide +kernel
theorem dX9_simulateCycle_6 : decode cX9_simulateCycle 6 = .ok (.getfield 15, 3) := by decide +kernel
theorem dX9_simulateCycle_9 : decode cX9_simulateCycle 9 = .ok (.invokevirtual 19, 3) := by decide +kernel
theorem dX9_simulateCycle_12 : decode cX9_simulateCycle 12 = .ok (.aload_n 0, 1) := by decide +kernel
theorem dX9_simulateCycle_13 : decode cX9_simulateCycle 13 = .ok (.aload_n 0, 1) := by decide +kernel
theorem dX9_simulateCycle_14 : decode cX9_simulateCycle 14 = .ok (.getfield 15, 3) := by decide +kernel
theorem dX9_simulateCycle_17 : decode cX9_simulateCycle 17 = .ok (.invokevirtual 24, 3) := by decide +kernel
theorem dX9_simulateCycle_20 : decode cX9_simulateCycle 20 = .ok (.putfield 28, 3) := by decide +kernel
theorem dX9_simulateCycle_23 : decode cX9_simulateCycle 23 = .ok (.aload_n 0, 1) := by decide +kernel
theorem dX9_simulateCycle_24 : decode cX9_simulateCycle 24 = .ok (.aload_n 0, 1) := by decide +kernel
theorem dX9_simulateCycle_25 : decode cX9_simulateCycle 25 = .ok (.getfield 15, 3) := by decide +kernel
theorem dX9_simulateCycle_28 : decode cX9_simulateCycle 28 = .ok (.getfield 31, 3) := by decide +kernel
theorem dX9_simulateCycle_31 : decode cX9_simulateCycle 31 = .ok (.putfield 34, 3) := by decide +kernel
theorem dX9_simulateCycle_34 : decode cX9_simulateCycle 34 = .ok (.aload_n 0, 1) := by decide +kernel
theorem dX9_simulateCycle_35 : decode cX9_simulateCycle 35 = .ok (.iconst 0, 1) := by decide +kernel
theorem dX9_simulateCycle_36 : decode cX9_simulateCycle 36 = .ok (.putfield 35, 3) := by decide +kernel
theorem dX9_simulateCycle_39 : decode cX9_simulateCycle 39 = .ok (.aload_n 0, 1) := by decide +kernel
theorem dX9_simulateCycle_40 : decode cX9_simulateCycle 40 = .ok (.iconst 0, 1) := by decide +kernel
theorem dX9_simulateCycle_41 : decode cX9_simulateCycle 41 = .ok (.putfield 38, 3) := by decide +kernel
theorem dX9_simulateCycle_44 : decode cX9_simulateCycle 44 = .ok (.aload_n 0, 1) := by decide +kernel
theorem dX9_simulateCycle_45 : decode cX9_simulateCycle 45 = .ok (.invokevirtual 41, 3) := by decide +kernel
theorem dX9_simulateCycle_48 : decode cX9_simulateCycle 48 = .ok (.istore_n 2, 1) := by decide +kernel
theorem dX9_simulateCycle_49 : decode cX9_simulateCycle 49 = .ok (.aload_n 0, 1) := by decide +kernel
theorem dX9_simulateCycle_50 : decode cX9_simulateCycle 50 = .ok (.iload_n 2, 1) := by decide +kernel
theorem dX9_simulateCycle_51 : decode cX9_simulateCycle 51 = .ok (.invokevirtual 44, 3) := by decide +kernel
theorem dX9_simulateCycle_54 : decode cX9_simulateCycle 54 = .ok (.istore_n 3, 1) := by decide +kernel
theorem dX9_simulateCycle_55 : decode cX9_simulateCycle 55 = .ok (.iconst 0, 1) := by decide +kernel
theorem dX9_simulateCycle_56 : decode cX9_simulateCycle 56 = .ok (.istore 4, 2) := by decide +kernel
theorem dX9_simulateCycle_58 : decode cX9_simulateCycle 58 = .ok (.iconst 0, 1) := by decide +kernel
theorem dX9_simulateCycle_59 : decode cX9_simulateCycle 59 = .ok (.istore 5, 2) := by decide +kernel
theorem dX9_simulateCycle_61 : decode cX9_simulateCycle 61 = .ok (.iload 5, 2) := by decide +kernel
theorem dX9_simulateCycle_63 : decode cX9_simulateCycle 63 = .ok (.iconst 4, 1) := by decide +kernel
theorem dX9_simulateCycle_64 : decode cX9_simulateCycle 64 = .ok (.if_icmp .ge 72, 3) := by decide +kernel
theorem dX9_simulateCycle_67 : decode cX9_simulateCycle 67 = .ok (.iload_n 2, 1) := by decide +kernel
theorem dX9_simulateCycle_68 : decode cX9_simulateCycle 68 = .ok (.iload 5, 2) := by decide +kernel
theorem dX9_simulateCycle_70 : decode cX9_simulateCycle 70 = .ok (.ishr, 1) := by decide +kernel
theorem dX9_simulateCycle_71 : decode cX9_simulateCycle 71 = .ok (.iconst 1, 1) := by decide +kernel
theorem dX9_simulateCycle_72 : decode cX9_simulateCycle 72 = .ok (.iand, 1) := by decide +kernel
theorem dX9_simulateCycle_73 : decode cX9_simulateCycle 73 = .ok (.iconst 1, 1) := by decide +kernel
theorem dX9_simulateCycle_74 : decode cX9_simulateCycle 74 = .ok (.if_icmp .ne 7, 3) := by decide +kernel
theorem dX9_simulateCycle_77 : decode cX9_simulateCycle 77 = .ok (.iconst 1, 1) := by decide +kernel
theorem dX9_simulateCycle_78 : decode cX9_simulateCycle 78 = .ok (.goto 4, 3) := by decide +kernel
theorem dX9_simulateCycle_81 : decode cX9_simulateCycle 81 = .ok (.iconst 0, 1) := by decide +kernel
theorem dX9_simulateCycle_82 : decode cX9_simulateCycle 82 = .ok (.istore 6, 2) := by decide +kernel
theorem dX9_simulateCycle_84 : decode cX9_simulateCycle 84 = .ok (.iload 6, 2) := by decide +kernel
theorem dX9_simulateCycle_86 : decode cX9_simulateCycle 86 = .ok (.ifCond .eq 44, 3) := by decide +kernel
theorem dX9_simulateCycle_89 : decode cX9_simulateCycle 89 = .ok (.aload_n 0, 1) := by decide +kernel
theorem dX9_simulateCycle_90 : decode cX9_simulateCycle 90 = .ok (.aload_n 0, 1) := by decide +kernel
theorem dX9_simulateCycle_91 : decode cX9_simulateCycle 91 = .ok (.getfield 15, 3) := by decide +kernel
theorem dX9_simulateCycle_94 : decode cX9_simulateCycle 94 = .ok (.getfield 48, 3) := by decide +kernel
theorem dX9_simulateCycle_97 : decode cX9_simulateCycle 97 = .ok (.iload 5, 2) := by decide +kernel
theorem dX9_simulateCycle_99 : decode cX9_simulateCycle 99 = .ok (.aaload, 1) := by decide +kernel
theorem dX9_simulateCycle_100 : decode cX9_simulateCycle 100 = .ok (.aload_n 0, 1) := by decide +kernel
theorem dX9_simulateCycle_101 : decode cX9_simulateCycle 101 = .ok (.getfield 9, 3) := by decide +kernel
theorem dX9_simulateCycle_104 : decode cX9_simulateCycle 104 = .ok (.getfield 52, 3) := by decide +kernel
theorem dX9_simulateCycle_107 : decode cX9_simulateCycle 107 = .ok (.iload 5, 2) := by decide +kernel
theorem dX9_simulateCycle_109 : decode cX9_simulateCycle 109 = .ok (.aaload, 1) := by decide +kernel
theorem dX9_simulateCycle_110 : decode cX9_simulateCycle 110 = .ok (.iload 5, 2) := by decide +kernel
theorem dX9_simulateCycle_112 : decode cX9_simulateCycle 112 = .ok (.iload_n 3, 1) := by decide +kernel
theorem dX9_simulateCycle_113 : decode cX9_simulateCycle 113 = .ok (.if_icmp .ne 7, 3) := by decide +kernel
theorem dX9_simulateCycle_116 : decode cX9_simulateCycle 116 = .ok (.iconst 1, 1) := by decide +kernel
theorem dX9_simulateCycle_117 : decode cX9_simulateCycle 117 = .ok (.goto 4, 3) := by decide +kernel
theorem dX9_simulateCycle_120 : decode cX9_simulateCycle 120 = .ok (.iconst 0, 1) := by decide +kernel
theorem dX9_simulateCycle_121 : decode cX9_simulateCycle 121 = .ok (.invokevirtual 58, 3) := by decide +kernel
theorem dX9_simulateCycle_124 : decode cX9_simulateCycle 124 = .ok (.ifCond .eq 6, 3) := by decide +kernel
theorem dX9_simulateCycle_127 : decode cX9_simulateCycle 127 = .ok (.iinc 4 1, 3) := by decide +kernel
theorem dX9_simulateCycle_130 : decode cX9_simulateCycle 130 = .ok (.iinc 5 1, 3) := by decide +kernel
theorem dX9_simulateCycle_133 : decode cX9_simulateCycle 133 = .ok (.goto (-72), 3) := by decide +kernel
theorem dX9_simulateCycle_136 : decode cX9_simulateCycle 136 = .ok (.aload_n 0, 1) := by decide +kernel
theorem dX9_simulateCycle_137 : decode cX9_simulateCycle 137 = .ok (.getfield 15, 3) := by decide +kernel
theorem dX9_simulateCycle_140 : decode cX9_simulateCycle 140 = .ok (.aload_n 0, 1) := by decide +kernel
theorem dX9_simulateCycle_141 : decode cX9_simulateCycle 141 = .ok (.getfield 34, 3) := by decide +kernel
theorem dX9_simulateCycle_144 : decode cX9_simulateCycle 144 = .ok (.aload_n 0, 1) := by decide +kernel
theorem dX9_simulateCycle_145 : decode cX9_simulateCycle 145 = .ok (.getfield 38, 3) := by decide +kernel
theorem dX9_simulateCycle_148 : decode cX9_simulateCycle 148 = .ok (.iconst (-1), 1) := by decide +kernel
theorem dX9_simulateCycle_149 : decode cX9_simulateCycle 149 = .ok (.ixor, 1) := by decide +kernel
theorem dX9_simulateCycle_150 : decode cX9_simulateCycle 150 = .ok (.iand, 1) := by decide +kernel
theorem dX9_simulateCycle_151 : decode cX9_simulateCycle 151 = .ok (.aload_n 0, 1) := by decide +kernel
theorem dX9_simulateCycle_152 : decode cX9_simulateCycle 152 = .ok (.getfield 35, 3) := by decide +kernel
theorem dX9_simulateCycle_155 : decode cX9_simulateCycle 155 = .ok (.ior, 1) := by decide +kernel
theorem dX9_simulateCycle_156 : decode cX9_simulateCycle 156 = .ok (.putfield 31, 3) := by decide +kernel
theorem dX9_simulateCycle_159 : decode cX9_simulateCycle 159 = .ok (.aload_n 0, 1) := by decide +kernel
theorem dX9_simulateCycle_160 : decode cX9_simulateCycle 160 = .ok (.getfield 15, 3) := by decide +kernel
theorem dX9_simulateCycle_163 : decode cX9_simulateCycle 163 = .ok (.invokevirtual 62, 3) := by decide +kernel
theorem dX9_simulateCycle_166 : decode cX9_simulateCycle 166 = .ok (.iload 4, 2) := by decide +kernel
theorem dX9_simulateCycle_168 : decode cX9_simulateCycle 168 = .ok (.ireturn, 1) := by decide +kernel
theorem dX9_tickingEngines_0 : decode cX9_tickingEngines 0 = .ok (.iconst 0, 1) := by decide +kernel
theorem dX9_tickingEngines_1 : decode cX9_tickingEngines 1 = .ok (.istore_n 1, 1) := by decide +kernel
theorem dX9_tickingEngines_2 : decode cX9_tickingEngines 2 = .ok (.iconst 0, 1) := by decide +kernel
theorem dX9_tickingEngines_3 : decode cX9_tickingEngines 3 = .ok (.istore_n 2, 1) := by decide +kernel
theorem dX9_tickingEngines_4 : decode cX9_tickingEngines 4 = .ok (.iload_n 2, 1) := by decide +kernel
theorem dX9_tickingEngines_5 : decode cX9_tickingEngines 5 = .ok (.iconst 4, 1) := by decide +kernel
theorem dX9_tickingEngines_6 : decode cX9_tickingEngines 6 = .ok (.if_icmp .ge 48, 3) := by decide +kernel
theorem dX9_tickingEngines_9 : decode cX9_tickingEngines 9 = .ok (.aload_n 0, 1) := by decide +kernel
theorem dX9_tickingEngines_10 : decode cX9_tickingEngines 10 = .ok (.getfield 9, 3) := by decide +kernel
theorem dX9_tickingEngines_13 : decode cX9_tickingEngines 13 = .ok (.getfield 52, 3) := by decide +kernel
theorem dX9_tickingEngines_16 : decode cX9_tickingEngines 16 = .ok (.iload_n 2, 1) := by decide +kernel
theorem dX9_tickingEngines_17 : decode cX9_tickingEngines 17 = .ok (.aaload, 1) := by decide +kernel
theorem dX9_tickingEngines_18 : decode cX9_tickingEngines 18 = .ok (.astore_n 3, 1) := by decide +kernel
theorem dX9_tickingEngines_19 : decode cX9_tickingEngines 19 = .ok (.aload_n 3, 1) := by decide +kernel
theorem dX9_tickingEngines_20 : decode cX9_tickingEngines 20 = .ok (.getfield 65, 3) := by decide +kernel
theorem dX9_tickingEngines_23 : decode cX9_tickingEngines 23 = .ok (.ifCond .eq 25, 3) := by decide +kernel
theorem dX9_tickingEngines_26 : decode cX9_tickingEngines 26 = .ok (.aload_n 0, 1) := by decide +kernel
theorem dX9_tickingEngines_27 : decode cX9_tickingEngines 27 = .ok (.getfield 15, 3) := by decide +kernel
theorem dX9_tickingEngines_30 : decode cX9_tickingEngines 30 = .ok (.getfield 48, 3) := by decide +kernel
theorem dX9_tickingEngines_33 : decode cX9_tickingEngines 33 = .ok (.iload_n 2, 1) := by decide +kernel
theorem dX9_tickingEngines_34 : decode cX9_tickingEngines 34 = .ok (.aaload, 1) := by decide +kernel
theorem dX9_tickingEngines_35 : decode cX9_tickingEngines 35 = .ok (.aload_n 3, 1) := by decide +kernel
theorem dX9_tickingEngines_36 : decode cX9_tickingEngines 36 = .ok (.invokevirtual 71, 3) := by decide +kernel
theorem dX9_tickingEngines_39 : decode cX9_tickingEngines 39 = .ok (.ifCond .eq 9, 3) := by decide +kernel
theorem dX9_tickingEngines_42 : decode cX9_tickingEngines 42 = .ok (.iload_n 1, 1) := by decide +kernel
theorem dX9_tickingEngines_43 : decode cX9_tickingEngines 43 = .ok (.iconst 1, 1) := by decide +kernel
theorem dX9_tickingEngines_44 : decode cX9_tickingEngines 44 = .ok (.iload_n 2, 1) := by decide +kernel
theorem dX9_tickingEngines_45 : decode cX9_tickingEngines 45 = .ok (.ishl, 1) := by decide +kernel
theorem dX9_tickingEngines_46 : decode cX9_tickingEngines 46 = .ok (.ior, 1) := by decide +kernel
theorem dX9_tickingEngines_47 : decode cX9_tickingEngines 47 = .ok (.istore_n 1, 1) := by decide +kernel
theorem dX9_tickingEngines_48 : decode cX9_tickingEngines 48 = .ok (.iinc 2 1, 3) := by decide +kernel
theorem dX9_tickingEngines_51 : decode cX9_tickingEngines 51 = .ok (.goto (-47), 3) := by decide +kernel
theorem dX9_tickingEngines_54 : decode cX9_tickingEngines 54 = .ok (.iload_n 1, 1) := by decide +kernel
theorem dX9_tickingEngines_55 : decode cX9_tickingEngines 55 = .ok (.ireturn, 1) := by decide +kernel
theorem dX9_grantPort_0 : decode cX9_grantPort 0 = .ok (.iconst 1, 1) := by decide +kernel
theorem dX9_grantPort_1 : decode cX9_grantPort 1 = .ok (.istore_n 2, 1) := by decide +kernel
theorem dX9_grantPort_2 : decode cX9_grantPort 2 = .ok (.iload_n 2, 1) := by decide +kernel
theorem dX9_grantPort_3 : decode cX9_grantPort 3 = .ok (.iconst 4, 1) := by decide +kernel
theorem dX9_grantPort_4 : decode cX9_grantPort 4 = .ok (.if_icmp .gt 60, 3) := by decide +kernel
theorem dX9_grantPort_7 : decode cX9_grantPort 7 = .ok (.aload_n 0, 1) := by decide +kernel
theorem dX9_grantPort_8 : decode cX9_grantPort 8 = .ok (.getfield 15, 3) := by decide +kernel
theorem dX9_grantPort_11 : decode cX9_grantPort 11 = .ok (.getfield 77, 3) := by decide +kernel
theorem dX9_grantPort_14 : decode cX9_grantPort 14 = .ok (.iload_n 2, 1) := by decide +kernel
theorem dX9_grantPort_15 : decode cX9_grantPort 15 = .ok (.iadd, 1) := by decide +kernel
theorem dX9_grantPort_16 : decode cX9_grantPort 16 = .ok (.iconst 4, 1) := by decide +kernel
theorem dX9_grantPort_17 : decode cX9_grantPort 17 = .ok (.irem, 1) := by decide +kernel
theorem dX9_grantPort_18 : decode cX9_grantPort 18 = .ok (.istore_n 3, 1) := by decide +kernel
theorem dX9_grantPort_19 : decode cX9_grantPort 19 = .ok (.iload_n 3, 1) := by decide +kernel
theorem dX9_grantPort_20 : decode cX9_grantPort 20 = .ok (.ifCond .lt 38, 3) := by decide +kernel
theorem dX9_grantPort_23 : decode cX9_grantPort 23 = .ok (.iload_n 1, 1) := by decide +kernel
theorem dX9_grantPort_24 : decode cX9_grantPort 24 = .ok (.iload_n 3, 1) := by decide +kernel
theorem dX9_grantPort_25 : decode cX9_grantPort 25 = .ok (.ishr, 1) := by decide +kernel
theorem dX9_grantPort_26 : decode cX9_grantPort 26 = .ok (.iconst 1, 1) := by decide +kernel
theorem dX9_grantPort_27 : decode cX9_grantPort 27 = .ok (.iand, 1) := by decide +kernel
theorem dX9_grantPort_28 : decode cX9_grantPort 28 = .ok (.iconst 1, 1) := by decide +kernel
theorem dX9_grantPort_29 : decode cX9_grantPort 29 = .ok (.if_icmp .ne 29, 3) := by decide +kernel
theorem dX9_grantPort_32 : decode cX9_grantPort 32 = .ok (.aload_n 0, 1) := by decide +kernel
theorem dX9_grantPort_33 : decode cX9_grantPort 33 = .ok (.aload_n 0, 1) := by decide +kernel
theorem dX9_grantPort_34 : decode cX9_grantPort 34 = .ok (.getfield 15, 3) := by decide +kernel
theorem dX9_grantPort_37 : decode cX9_grantPort 37 = .ok (.getfield 48, 3) := by decide +kernel
theorem dX9_grantPort_40 : decode cX9_grantPort 40 = .ok (.iload_n 3, 1) := by decide +kernel
theorem dX9_grantPort_41 : decode cX9_grantPort 41 = .ok (.aaload, 1) := by decide +kernel
theorem dX9_grantPort_42 : decode cX9_grantPort 42 = .ok (.invokevirtual 80, 3) := by decide +kernel
theorem dX9_grantPort_45 : decode cX9_grantPort 45 = .ok (.ifCond .eq 13, 3) := by decide +kernel
theorem dX9_grantPort_48 : decode cX9_grantPort 48 = .ok (.aload_n 0, 1) := by decide +kernel
theorem dX9_grantPort_49 : decode cX9_grantPort 49 = .ok (.getfield 15, 3) := by decide +kernel
theorem dX9_grantPort_52 : decode cX9_grantPort 52 = .ok (.iload_n 3, 1) := by decide +kernel
theorem dX9_grantPort_53 : decode cX9_grantPort 53 = .ok (.putfield 77, 3) := by decide +kernel
theorem dX9_grantPort_56 : decode cX9_grantPort 56 = .ok (.iload_n 3, 1) := by decide +kernel
theorem dX9_grantPort_57 : decode cX9_grantPort 57 = .ok (.ireturn, 1) := by decide +kernel
theorem dX9_grantPort_58 : decode cX9_grantPort 58 = .ok (.iinc 2 1, 3) := by decide +kernel
theorem dX9_grantPort_61 : decode cX9_grantPort 61 = .ok (.goto (-59), 3) := by decide +kernel
theorem dX9_grantPort_64 : decode cX9_grantPort 64 = .ok (.iconst (-1), 1) := by decide +kernel
theorem dX9_grantPort_65 : decode cX9_grantPort 65 = .ok (.ireturn, 1) := by decide +kernel
theorem dX9_wantsPort_0 : decode cX9_wantsPort 0 = .ok (.aload_n 1, 1) := by decide +kernel
theorem dX9_wantsPort_1 : decode cX9_wantsPort 1 = .ok (.getfield 84, 3) := by decide +kernel
theorem dX9_wantsPort_4 : decode cX9_wantsPort 4 = .ok (.ifCond .ne 24, 3) := by decide +kernel
theorem dX9_wantsPort_7 : decode cX9_wantsPort 7 = .ok (.aload_n 0, 1) := by decide +kernel
theorem dX9_wantsPort_8 : decode cX9_wantsPort 8 = .ok (.getfield 9, 3) := by decide +kernel
theorem dX9_wantsPort_11 : decode cX9_wantsPort 11 = .ok (.aload_n 1, 1) := by decide +kernel
theorem dX9_wantsPort_12 : decode cX9_wantsPort 12 = .ok (.getfield 87, 3) := by decide +kernel
theorem dX9_wantsPort_15 : decode cX9_wantsPort 15 = .ok (.invokevirtual 90, 3) := by decide +kernel
theorem dX9_wantsPort_18 : decode cX9_wantsPort 18 = .ok (.invokevirtual 94, 3) := by decide +kernel
theorem dX9_wantsPort_21 : decode cX9_wantsPort 21 = .ok (.ifCond .eq 7, 3) := by decide +kernel
theorem dX9_wantsPort_24 : decode cX9_wantsPort 24 = .ok (.iconst 1, 1) := by decide +kernel
theorem dX9_wantsPort_25 : decode cX9_wantsPort 25 = .ok (.goto 4, 3) := by decide +kernel
theorem dX9_wantsPort_28 : decode cX9_wantsPort 28 = .ok (.iconst 0, 1) := by decide +kernel
theorem dX9_wantsPort_29 : decode cX9_wantsPort 29 = .ok (.ireturn, 1) := by decide +kernel
theorem dX9_doTick_0 : decode cX9_doTick 0 = .ok (.aload_n 1, 1) := by decide +kernel
theorem dX9_doTick_1 : decode cX9_doTick 1 = .ok (.getfield 84, 3) := by decide +kernel
theorem dX9_doTick_4 : decode cX9_doTick 4 = .ok (.ifCond .le 25, 3) := by decide +kernel
theorem dX9_doTick_7 : decode cX9_doTick 7 = .ok (.aload_n 1, 1) := by decide +kernel
theorem dX9_doTick_8 : decode cX9_doTick 8 = .ok (.dup, 1) := by decide +kernel
theorem dX9_doTick_9 : decode cX9_doTick 9 = .ok (.getfield 84, 3) := by decide +kernel
theorem dX9_doTick_12 : decode cX9_doTick 12 = .ok (.iconst 1, 1) := by decide +kernel
theorem dX9_doTick_13 : decode cX9_doTick 13 = .ok (.isub, 1) := by decide +kernel
theorem dX9_doTick_14 : decode cX9_doTick 14 = .ok (.putfield 84, 3) := by decide +kernel
theorem dX9_doTick_17 : decode cX9_doTick 17 = .ok (.aload_n 1, 1) := by decide +kernel
theorem dX9_doTick_18 : decode cX9_doTick 18 = .ok (.getfield 100, 3) := by decide +kernel
theorem dX9_doTick_21 : decode cX9_doTick 21 = .ok (.iconst 2, 1) := by decide +kernel
theorem dX9_doTick_22 : decode cX9_doTick 22 = .ok (.dup2, 1) := by decide +kernel
theorem dX9_doTick_23 : decode cX9_doTick 23 = .ok (.iaload, 1) := by decide +kernel
theorem dX9_doTick_24 : decode cX9_doTick 24 = .ok (.iconst 1, 1) := by decide +kernel
theorem dX9_doTick_25 : decode cX9_doTick 25 = .ok (.iadd, 1) := by decide +kernel
theorem dX9_doTick_26 : decode cX9_doTick 26 = .ok (.iastore, 1) := by decide +kernel
theorem dX9_doTick_27 : decode cX9_doTick 27 = .ok (.iconst 0, 1) := by decide +kernel
theorem dX9_doTick_28 : decode cX9_doTick 28 = .ok (.ireturn, 1) := by decide +kernel
theorem dX9_doTick_29 : decode cX9_doTick 29 = .ok (.aload_n 0, 1) := by decide +kernel
theorem dX9_doTick_30 : decode cX9_doTick 30 = .ok (.getfield 9, 3) := by decide +kernel
theorem dX9_doTick_33 : decode cX9_doTick 33 = .ok (.aload_n 1, 1) := by decide +kernel
theorem dX9_doTick_34 : decode cX9_doTick 34 = .ok (.getfield 87, 3) := by decide +kernel
theorem dX9_doTick_37 : decode cX9_doTick 37 = .ok (.invokevirtual 90, 3) := by decide +kernel
theorem dX9_doTick_40 : decode cX9_doTick 40 = .ok (.astore 4, 2) := by decide +kernel
theorem dX9_doTick_42 : decode cX9_doTick 42 = .ok (.aload_n 1, 1) := by decide +kernel
theorem dX9_doTick_43 : decode cX9_doTick 43 = .ok (.getfield 104, 3) := by decide +kernel
theorem dX9_doTick_46 : decode cX9_doTick 46 = .ok (.ifCond .ne 7, 3) := by decide +kernel
theorem dX9_doTick_49 : decode cX9_doTick 49 = .ok (.iconst 1, 1) := by decide +kernel
theorem dX9_doTick_50 : decode cX9_doTick 50 = .ok (.goto 4, 3) := by decide +kernel
theorem dX9_doTick_53 : decode cX9_doTick 53 = .ok (.iconst 0, 1) := by decide +kernel
theorem dX9_doTick_54 : decode cX9_doTick 54 = .ok (.istore 5, 2) := by decide +kernel
theorem dX9_doTick_56 : decode cX9_doTick 56 = .ok (.aload_n 0, 1) := by decide +kernel
theorem dX9_doTick_57 : decode cX9_doTick 57 = .ok (.aload_n 0, 1) := by decide +kernel
theorem dX9_doTick_58 : decode cX9_doTick 58 = .ok (.getfield 9, 3) := by decide +kernel
theorem dX9_doTick_61 : decode cX9_doTick 61 = .ok (.aload_n 1, 1) := by decide +kernel
theorem dX9_doTick_62 : decode cX9_doTick 62 = .ok (.getfield 87, 3) := by decide +kernel
theorem dX9_doTick_65 : decode cX9_doTick 65 = .ok (.aload_n 2, 1) := by decide +kernel
theorem dX9_doTick_66 : decode cX9_doTick 66 = .ok (.invokevirtual 107, 3) := by decide +kernel
theorem dX9_doTick_69 : decode cX9_doTick 69 = .ok (.putfield 111, 3) := by decide +kernel
theorem dX9_doTick_72 : decode cX9_doTick 72 = .ok (.aload 4, 2) := by decide +kernel
theorem dX9_doTick_74 : decode cX9_doTick 74 = .ok (.invokevirtual 94, 3) := by decide +kernel
theorem dX9_doTick_77 : decode cX9_doTick 77 = .ok (.ifCond .eq 14, 3) := by decide +kernel
theorem dX9_doTick_80 : decode cX9_doTick 80 = .ok (.aload_n 0, 1) := by decide +kernel
theorem dX9_doTick_81 : decode cX9_doTick 81 = .ok (.aload 4, 2) := by decide +kernel
theorem dX9_doTick_83 : decode cX9_doTick 83 = .ok (.aload_n 1, 1) := by decide +kernel
theorem dX9_doTick_84 : decode cX9_doTick 84 = .ok (.iload_n 3, 1) := by decide +kernel
theorem dX9_doTick_85 : decode cX9_doTick 85 = .ok (.invokevirtual 114, 3) := by decide +kernel
theorem dX9_doTick_88 : decode cX9_doTick 88 = .ok (.goto 11, 3) := by decide +kernel
theorem dX9_doTick_91 : decode cX9_doTick 91 = .ok (.aload_n 0, 1) := by decide +kernel
theorem dX9_doTick_92 : decode cX9_doTick 92 = .ok (.aload 4, 2) := by decide +kernel
theorem dX9_doTick_94 : decode cX9_doTick 94 = .ok (.aload_n 1, 1) := by decide +kernel
theorem dX9_doTick_95 : decode cX9_doTick 95 = .ok (.aload_n 2, 1) := by decide +kernel
theorem dX9_doTick_96 : decode cX9_doTick 96 = .ok (.invokevirtual 118, 3) := by decide +kernel
theorem dX9_doTick_99 : decode cX9_doTick 99 = .ok (.istore 6, 2) := by decide +kernel
theorem dX9_doTick_101 : decode cX9_doTick 101 = .ok (.iload 5, 2) := by decide +kernel
theorem dX9_doTick_103 : decode cX9_doTick 103 = .ok (.ifCond .eq 35, 3) := by decide +kernel
theorem dX9_doTick_106 : decode cX9_doTick 106 = .ok (.aload 4, 2) := by decide +kernel
theorem dX9_doTick_108 : decode cX9_doTick 108 = .ok (.getfield 122, 3) := by decide +kernel
theorem dX9_doTick_111 : decode cX9_doTick 111 = .ok (.iconst (-1), 1) := by decide +kernel
theorem dX9_doTick_112 : decode cX9_doTick 112 = .ok (.if_icmp .eq 26, 3) := by decide +kernel
theorem dX9_doTick_115 : decode cX9_doTick 115 = .ok (.aload_n 0, 1) := by decide +kernel
theorem dX9_doTick_116 : decode cX9_doTick 116 = .ok (.getfield 15, 3) := by decide +kernel
theorem dX9_doTick_119 : decode cX9_doTick 119 = .ok (.aload_n 2, 1) := by decide +kernel
theorem dX9_doTick_120 : decode cX9_doTick 120 = .ok (.getfield 125, 3) := by decide +kernel
theorem dX9_doTick_123 : decode cX9_doTick 123 = .ok (.aload 4, 2) := by decide +kernel
theorem dX9_doTick_125 : decode cX9_doTick 125 = .ok (.getfield 122, 3) := by decide +kernel
theorem dX9_doTick_128 : decode cX9_doTick 128 = .ok (.aload_n 2, 1) := by decide +kernel
theorem dX9_doTick_129 : decode cX9_doTick 129 = .ok (.getfield 128, 3) := by decide +kernel
theorem dX9_doTick_132 : decode cX9_doTick 132 = .ok (.invokestatic 131, 3) := by decide +kernel
theorem dX9_doTick_135 : decode cX9_doTick 135 = .ok (.invokevirtual 135, 3) := by decide +kernel
theorem dX9_doTick_138 : decode cX9_doTick 138 = .ok (.aload_n 1, 1) := by decide +kernel
theorem dX9_doTick_139 : decode cX9_doTick 139 = .ok (.iload 6, 2) := by decide +kernel
theorem dX9_doTick_141 : decode cX9_doTick 141 = .ok (.putfield 104, 3) := by decide +kernel
theorem dX9_doTick_144 : decode cX9_doTick 144 = .ok (.iload 6, 2) := by decide +kernel
theorem dX9_doTick_146 : decode cX9_doTick 146 = .ok (.ifCond .eq 15, 3) := by decide +kernel
theorem dX9_doTick_149 : decode cX9_doTick 149 = .ok (.aload_n 1, 1) := by decide +kernel
theorem dX9_doTick_150 : decode cX9_doTick 150 = .ok (.getfield 100, 3) := by decide +kernel
theorem dX9_doTick_153 : decode cX9_doTick 153 = .ok (.iconst 1, 1) := by decide +kernel
theorem dX9_doTick_154 : decode cX9_doTick 154 = .ok (.dup2, 1) := by decide +kernel
theorem dX9_doTick_155 : decode cX9_doTick 155 = .ok (.iaload, 1) := by decide +kernel
theorem dX9_doTick_156 : decode cX9_doTick 156 = .ok (.iconst 1, 1) := by decide +kernel
theorem dX9_doTick_157 : decode cX9_doTick 157 = .ok (.iadd, 1) := by decide +kernel
theorem dX9_doTick_158 : decode cX9_doTick 158 = .ok (.iastore, 1) := by decide +kernel
theorem dX9_doTick_159 : decode cX9_doTick 159 = .ok (.iconst 0, 1) := by decide +kernel
theorem dX9_doTick_160 : decode cX9_doTick 160 = .ok (.ireturn, 1) := by decide +kernel
theorem dX9_doTick_161 : decode cX9_doTick 161 = .ok (.aload_n 1, 1) := by decide +kernel
theorem dX9_doTick_162 : decode cX9_doTick 162 = .ok (.aload 4, 2) := by decide +kernel
theorem dX9_doTick_164 : decode cX9_doTick 164 = .ok (.getfield 139, 3) := by decide +kernel
theorem dX9_doTick_167 : decode cX9_doTick 167 = .ok (.putfield 84, 3) := by decide +kernel
theorem dX9_doTick_170 : decode cX9_doTick 170 = .ok (.aload_n 1, 1) := by decide +kernel
theorem dX9_doTick_171 : decode cX9_doTick 171 = .ok (.aload_n 0, 1) := by decide +kernel
theorem dX9_doTick_172 : decode cX9_doTick 172 = .ok (.getfield 111, 3) := by decide +kernel
theorem dX9_doTick_175 : decode cX9_doTick 175 = .ok (.putfield 87, 3) := by decide +kernel
theorem dX9_doTick_178 : decode cX9_doTick 178 = .ok (.aload_n 1, 1) := by decide +kernel
theorem dX9_doTick_179 : decode cX9_doTick 179 = .ok (.getfield 100, 3) := by decide +kernel
theorem dX9_doTick_182 : decode cX9_doTick 182 = .ok (.iconst 0, 1) := by decide +kernel
theorem dX9_doTick_183 : decode cX9_doTick 183 = .ok (.dup2, 1) := by decide +kernel
theorem dX9_doTick_184 : decode cX9_doTick 184 = .ok (.iaload, 1) := by decide +kernel
theorem dX9_doTick_185 : decode cX9_doTick 185 = .ok (.iconst 1, 1) := by decide +kernel
theorem dX9_doTick_186 : decode cX9_doTick 186 = .ok (.iadd, 1) := by decide +kernel
theorem dX9_doTick_187 : decode cX9_doTick 187 = .ok (.iastore, 1) := by decide +kernel
theorem dX9_doTick_188 : decode cX9_doTick 188 = .ok (.iconst 1, 1) := by decide +kernel
theorem dX9_doTick_189 : decode cX9_doTick 189 = .ok (.ireturn, 1) := by decide +kernel
theorem dX9_execute_0 : decode cX9_execute 0 = .ok (.getstatic 140, 3) := by decide +kernel
theorem dX9_execute_3 : decode cX9_execute 3 = .ok (.aload_n 1, 1) := by decide +kernel
theorem dX9_execute_4 : decode cX9_execute 4 = .ok (.getfield 145, 3) := by decide +kernel
theorem dX9_execute_7 : decode cX9_execute 7 = .ok (.invokevirtual 149, 3) := by decide +kernel
theorem dX9_execute_10 : decode cX9_execute 10 = .ok (.iaload, 1) := by decide +kernel
theorem dX9_execute_11 : decode cX9_execute 11 = .ok (.tableswitch 188 1 11 #[57, 80, 87, 95, 103, 111, 119, 138, 155, 172, 179], 57) := by decide +kernel
theorem dX9_execute_68 : decode cX9_execute 68 = .ok (.aload_n 0, 1) := by decide +kernel
theorem dX9_execute_69 : decode cX9_execute 69 = .ok (.aload_n 1, 1) := by decide +kernel
theorem dX9_execute_70 : decode cX9_execute 70 = .ok (.getfield 154, 3) := by decide +kernel
theorem dX9_execute_73 : decode cX9_execute 73 = .ok (.aload_n 2, 1) := by decide +kernel
theorem dX9_execute_74 : decode cX9_execute 74 = .ok (.aload_n 3, 1) := by decide +kernel
theorem dX9_execute_75 : decode cX9_execute 75 = .ok (.invokevirtual 157, 3) := by decide +kernel
theorem dX9_execute_78 : decode cX9_execute 78 = .ok (.ifCond .eq 11, 3) := by decide +kernel
theorem dX9_execute_81 : decode cX9_execute 81 = .ok (.aload_n 0, 1) := by decide +kernel
theorem dX9_execute_82 : decode cX9_execute 82 = .ok (.aload_n 1, 1) := by decide +kernel
theorem dX9_execute_83 : decode cX9_execute 83 = .ok (.getfield 161, 3) := by decide +kernel
theorem dX9_execute_86 : decode cX9_execute 86 = .ok (.putfield 111, 3) := by decide +kernel
theorem dX9_execute_89 : decode cX9_execute 89 = .ok (.iconst 0, 1) := by decide +kernel
theorem dX9_execute_90 : decode cX9_execute 90 = .ok (.ireturn, 1) := by decide +kernel
theorem dX9_execute_91 : decode cX9_execute 91 = .ok (.aload_n 0, 1) := by decide +kernel
theorem dX9_execute_92 : decode cX9_execute 92 = .ok (.aload_n 1, 1) := by decide +kernel
theorem dX9_execute_93 : decode cX9_execute 93 = .ok (.aload_n 3, 1) := by decide +kernel
theorem dX9_execute_94 : decode cX9_execute 94 = .ok (.invokevirtual 164, 3) := by decide +kernel
theorem dX9_execute_97 : decode cX9_execute 97 = .ok (.ireturn, 1) := by decide +kernel
theorem dX9_execute_98 : decode cX9_execute 98 = .ok (.aload_n 0, 1) := by decide +kernel
theorem dX9_execute_99 : decode cX9_execute 99 = .ok (.aload_n 1, 1) := by decide +kernel
theorem dX9_execute_100 : decode cX9_execute 100 = .ok (.aload_n 2, 1) := by decide +kernel
theorem dX9_execute_101 : decode cX9_execute 101 = .ok (.aload_n 3, 1) := by decide +kernel
theorem dX9_execute_102 : decode cX9_execute 102 = .ok (.invokevirtual 168, 3) := by decide +kernel
theorem dX9_execute_105 : decode cX9_execute 105 = .ok (.ireturn, 1) := by decide +kernel
theorem dX9_execute_106 : decode cX9_execute 106 = .ok (.aload_n 0, 1) := by decide +kernel
theorem dX9_execute_107 : decode cX9_execute 107 = .ok (.aload_n 1, 1) := by decide +kernel
theorem dX9_execute_108 : decode cX9_execute 108 = .ok (.aload_n 2, 1) := by decide +kernel
theorem dX9_execute_109 : decode cX9_execute 109 = .ok (.aload_n 3, 1) := by decide +kernel
theorem dX9_execute_110 : decode cX9_execute 110 = .ok (.invokevirtual 171, 3) := by decide +kernel
theorem dX9_execute_113 : decode cX9_execute 113 = .ok (.ireturn, 1) := by decide +kernel
theorem dX9_execute_114 : decode cX9_execute 114 = .ok (.aload_n 0, 1) := by decide +kernel
theorem dX9_execute_115 : decode cX9_execute 115 = .ok (.aload_n 1, 1) := by decide +kernel
theorem dX9_execute_116 : decode cX9_execute 116 = .ok (.aload_n 2, 1) := by decide +kernel
theorem dX9_execute_117 : decode cX9_execute 117 = .ok (.aload_n 3, 1) := by decide +kernel
theorem dX9_execute_118 : decode cX9_execute 118 = .ok (.invokevirtual 174, 3) := by decide +kernel
theorem dX9_execute_121 : decode cX9_execute 121 = .ok (.ireturn, 1) := by decide +kernel
theorem dX9_execute_122 : decode cX9_execute 122 = .ok (.aload_n 0, 1) := by decide +kernel
theorem dX9_execute_123 : decode cX9_execute 123 = .ok (.aload_n 1, 1) := by decide +kernel
theorem dX9_execute_124 : decode cX9_execute 124 = .ok (.aload_n 2, 1) := by decide +kernel
theorem dX9_execute_125 : decode cX9_execute 125 = .ok (.aload_n 3, 1) := by decide +kernel
theorem dX9_execute_126 : decode cX9_execute 126 = .ok (.invokevirtual 177, 3) := by decide +kernel
theorem dX9_execute_129 : decode cX9_execute 129 = .ok (.ireturn, 1) := by decide +kernel
theorem dX9_execute_130 : decode cX9_execute 130 = .ok (.aload_n 0, 1) := by decide +kernel
theorem dX9_execute_131 : decode cX9_execute 131 = .ok (.aload_n 1, 1) := by decide +kernel
theorem dX9_execute_132 : decode cX9_execute 132 = .ok (.getfield 154, 3) := by decide +kernel
theorem dX9_execute_135 : decode cX9_execute 135 = .ok (.aload_n 0, 1) := by decide +kernel
theorem dX9_execute_136 : decode cX9_execute 136 = .ok (.aload_n 1, 1) := by decide +kernel
theorem dX9_execute_137 : decode cX9_execute 137 = .ok (.aload_n 2, 1) := by decide +kernel
theorem dX9_execute_138 : decode cX9_execute 138 = .ok (.aload_n 3, 1) := by decide +kernel
theorem dX9_execute_139 : decode cX9_execute 139 = .ok (.invokevirtual 180, 3) := by decide +kernel
theorem dX9_execute_142 : decode cX9_execute 142 = .ok (.aload_n 2, 1) := by decide +kernel
theorem dX9_execute_143 : decode cX9_execute 143 = .ok (.aload_n 3, 1) := by decide +kernel
theorem dX9_execute_144 : decode cX9_execute 144 = .ok (.invokevirtual 183, 3) := by decide +kernel
theorem dX9_execute_147 : decode cX9_execute 147 = .ok (.iconst 0, 1) := by decide +kernel
theorem dX9_execute_148 : decode cX9_execute 148 = .ok (.ireturn, 1) := by decide +kernel
theorem dX9_execute_149 : decode cX9_execute 149 = .ok (.aload_n 0, 1) := by decide +kernel
theorem dX9_execute_150 : decode cX9_execute 150 = .ok (.dup, 1) := by decide +kernel
theorem dX9_execute_151 : decode cX9_execute 151 = .ok (.getfield 35, 3) := by decide +kernel
theorem dX9_execute_154 : decode cX9_execute 154 = .ok (.iconst 1, 1) := by decide +kernel
theorem dX9_execute_155 : decode cX9_execute 155 = .ok (.aload_n 1, 1) := by decide +kernel
theorem dX9_execute_156 : decode cX9_execute 156 = .ok (.getfield 161, 3) := by decide +kernel
theorem dX9_execute_159 : decode cX9_execute 159 = .ok (.ishl, 1) := by decide +kernel
theorem dX9_execute_160 : decode cX9_execute 160 = .ok (.ior, 1) := by decide +kernel
theorem dX9_execute_161 : decode cX9_execute 161 = .ok (.putfield 35, 3) := by decide +kernel
theorem dX9_execute_164 : decode cX9_execute 164 = .ok (.iconst 0, 1) := by decide +kernel
theorem dX9_execute_165 : decode cX9_execute 165 = .ok (.ireturn, 1) := by decide +kernel
theorem dX9_execute_166 : decode cX9_execute 166 = .ok (.aload_n 0, 1) := by decide +kernel
theorem dX9_execute_167 : decode cX9_execute 167 = .ok (.dup, 1) := by decide +kernel
theorem dX9_execute_168 : decode cX9_execute 168 = .ok (.getfield 38, 3) := by decide +kernel
theorem dX9_execute_171 : decode cX9_execute 171 = .ok (.iconst 1, 1) := by decide +kernel
theorem dX9_execute_172 : decode cX9_execute 172 = .ok (.aload_n 1, 1) := by decide +kernel
theorem dX9_execute_173 : decode cX9_execute 173 = .ok (.getfield 161, 3) := by decide +kernel
theorem dX9_execute_176 : decode cX9_execute 176 = .ok (.ishl, 1) := by decide +kernel
theorem dX9_execute_177 : decode cX9_execute 177 = .ok (.ior, 1) := by decide +kernel
theorem dX9_execute_178 : decode cX9_execute 178 = .ok (.putfield 38, 3) := by decide +kernel
theorem dX9_execute_181 : decode cX9_execute 181 = .ok (.iconst 0, 1) := by decide +kernel
theorem dX9_execute_182 : decode cX9_execute 182 = .ok (.ireturn, 1) := by decide +kernel
theorem dX9_execute_183 : decode cX9_execute 183 = .ok (.aload_n 0, 1) := by decide +kernel
theorem dX9_execute_184 : decode cX9_execute 184 = .ok (.aload_n 1, 1) := by decide +kernel
theorem dX9_execute_185 : decode cX9_execute 185 = .ok (.aload_n 2, 1) := by decide +kernel
theorem dX9_execute_186 : decode cX9_execute 186 = .ok (.invokevirtual 187, 3) := by decide +kernel
theorem dX9_execute_189 : decode cX9_execute 189 = .ok (.ireturn, 1) := by decide +kernel
theorem dX9_execute_190 : decode cX9_execute 190 = .ok (.aload_n 0, 1) := by decide +kernel
theorem dX9_execute_191 : decode cX9_execute 191 = .ok (.aload_n 1, 1) := by decide +kernel
theorem dX9_execute_192 : decode cX9_execute 192 = .ok (.aload_n 2, 1) := by decide +kernel
theorem dX9_execute_193 : decode cX9_execute 193 = .ok (.aload_n 3, 1) := by decide +kernel
theorem dX9_execute_194 : decode cX9_execute 194 = .ok (.invokevirtual 191, 3) := by decide +kernel
theorem dX9_execute_197 : decode cX9_execute 197 = .ok (.iconst 0, 1) := by decide +kernel
theorem dX9_execute_198 : decode cX9_execute 198 = .ok (.ireturn, 1) := by decide +kernel
theorem dX9_execute_199 : decode cX9_execute 199 = .ok (.iconst 0, 1) := by decide +kernel
theorem dX9_execute_200 : decode cX9_execute 200 = .ok (.ireturn, 1) := by decide +kernel
theorem dX9_holds_0 : decode cX9_holds 0 = .ok (.getstatic 140, 3) := by decide +kernel
theorem dX9_holds_3 : decode cX9_holds 3 = .ok (.aload_n 1, 1) := by decide +kernel
theorem dX9_holds_4 : decode cX9_holds 4 = .ok (.invokevirtual 149, 3) := by decide +kernel
theorem dX9_holds_7 : decode cX9_holds 7 = .ok (.iaload, 1) := by decide +kernel
theorem dX9_holds_8 : decode cX9_holds 8 = .ok (.tableswitch 173 12 18 #[44, 57, 70, 94, 118, 135, 156], 44) := by decide +kernel
theorem dX9_holds_52 : decode cX9_holds 52 = .ok (.aload_n 2, 1) := by decide +kernel
theorem dX9_holds_53 : decode cX9_holds 53 = .ok (.getfield 195, 3) := by decide +kernel
theorem dX9_holds_56 : decode cX9_holds 56 = .ok (.ifCond .ne 7, 3) := by decide +kernel
theorem dX9_holds_59 : decode cX9_holds 59 = .ok (.iconst 1, 1) := by decide +kernel
theorem dX9_holds_60 : decode cX9_holds 60 = .ok (.goto 4, 3) := by decide +kernel
theorem dX9_holds_63 : decode cX9_holds 63 = .ok (.iconst 0, 1) := by decide +kernel
theorem dX9_holds_64 : decode cX9_holds 64 = .ok (.ireturn, 1) := by decide +kernel
theorem dX9_holds_65 : decode cX9_holds 65 = .ok (.aload_n 2, 1) := by decide +kernel
theorem dX9_holds_66 : decode cX9_holds 66 = .ok (.getfield 198, 3) := by decide +kernel
theorem dX9_holds_69 : decode cX9_holds 69 = .ok (.ifCond .ne 7, 3) := by decide +kernel
theorem dX9_holds_72 : decode cX9_holds 72 = .ok (.iconst 1, 1) := by decide +kernel
theorem dX9_holds_73 : decode cX9_holds 73 = .ok (.goto 4, 3) := by decide +kernel
theorem dX9_holds_76 : decode cX9_holds 76 = .ok (.iconst 0, 1) := by decide +kernel
theorem dX9_holds_77 : decode cX9_holds 77 = .ok (.ireturn, 1) := by decide +kernel
theorem dX9_holds_78 : decode cX9_holds 78 = .ok (.aload_n 2, 1) := by decide +kernel
theorem dX9_holds_79 : decode cX9_holds 79 = .ok (.dup, 1) := by decide +kernel
theorem dX9_holds_80 : decode cX9_holds 80 = .ok (.getfield 195, 3) := by decide +kernel
theorem dX9_holds_83 : decode cX9_holds 83 = .ok (.iconst 1, 1) := by decide +kernel
theorem dX9_holds_84 : decode cX9_holds 84 = .ok (.isub, 1) := by decide +kernel
theorem dX9_holds_85 : decode cX9_holds 85 = .ok (.putfield 195, 3) := by decide +kernel
theorem dX9_holds_88 : decode cX9_holds 88 = .ok (.aload_n 2, 1) := by decide +kernel
theorem dX9_holds_89 : decode cX9_holds 89 = .ok (.getfield 195, 3) := by decide +kernel
theorem dX9_holds_92 : decode cX9_holds 92 = .ok (.iconst (-1), 1) := by decide +kernel
theorem dX9_holds_93 : decode cX9_holds 93 = .ok (.if_icmp .eq 7, 3) := by decide +kernel
theorem dX9_holds_96 : decode cX9_holds 96 = .ok (.iconst 1, 1) := by decide +kernel
theorem dX9_holds_97 : decode cX9_holds 97 = .ok (.goto 4, 3) := by decide +kernel
theorem dX9_holds_100 : decode cX9_holds 100 = .ok (.iconst 0, 1) := by decide +kernel
theorem dX9_holds_101 : decode cX9_holds 101 = .ok (.ireturn, 1) := by decide +kernel
theorem dX9_holds_102 : decode cX9_holds 102 = .ok (.aload_n 2, 1) := by decide +kernel
theorem dX9_holds_103 : decode cX9_holds 103 = .ok (.dup, 1) := by decide +kernel
theorem dX9_holds_104 : decode cX9_holds 104 = .ok (.getfield 198, 3) := by decide +kernel
theorem dX9_holds_107 : decode cX9_holds 107 = .ok (.iconst 1, 1) := by decide +kernel
theorem dX9_holds_108 : decode cX9_holds 108 = .ok (.isub, 1) := by decide +kernel
theorem dX9_holds_109 : decode cX9_holds 109 = .ok (.putfield 198, 3) := by decide +kernel
theorem dX9_holds_112 : decode cX9_holds 112 = .ok (.aload_n 2, 1) := by decide +kernel
theorem dX9_holds_113 : decode cX9_holds 113 = .ok (.getfield 198, 3) := by decide +kernel
theorem dX9_holds_116 : decode cX9_holds 116 = .ok (.iconst (-1), 1) := by decide +kernel
theorem dX9_holds_117 : decode cX9_holds 117 = .ok (.if_icmp .eq 7, 3) := by decide +kernel
theorem dX9_holds_120 : decode cX9_holds 120 = .ok (.iconst 1, 1) := by decide +kernel
theorem dX9_holds_121 : decode cX9_holds 121 = .ok (.goto 4, 3) := by decide +kernel
theorem dX9_holds_124 : decode cX9_holds 124 = .ok (.iconst 0, 1) := by decide +kernel
theorem dX9_holds_125 : decode cX9_holds 125 = .ok (.ireturn, 1) := by decide +kernel
theorem dX9_holds_126 : decode cX9_holds 126 = .ok (.aload_n 2, 1) := by decide +kernel
theorem dX9_holds_127 : decode cX9_holds 127 = .ok (.getfield 195, 3) := by decide +kernel
theorem dX9_holds_130 : decode cX9_holds 130 = .ok (.aload_n 2, 1) := by decide +kernel
theorem dX9_holds_131 : decode cX9_holds 131 = .ok (.getfield 198, 3) := by decide +kernel
theorem dX9_holds_134 : decode cX9_holds 134 = .ok (.if_icmp .eq 7, 3) := by decide +kernel
theorem dX9_holds_137 : decode cX9_holds 137 = .ok (.iconst 1, 1) := by decide +kernel
theorem dX9_holds_138 : decode cX9_holds 138 = .ok (.goto 4, 3) := by decide +kernel
theorem dX9_holds_141 : decode cX9_holds 141 = .ok (.iconst 0, 1) := by decide +kernel
theorem dX9_holds_142 : decode cX9_holds 142 = .ok (.ireturn, 1) := by decide +kernel
theorem dX9_holds_143 : decode cX9_holds 143 = .ok (.aload_n 0, 1) := by decide +kernel
theorem dX9_holds_144 : decode cX9_holds 144 = .ok (.getfield 28, 3) := by decide +kernel
theorem dX9_holds_147 : decode cX9_holds 147 = .ok (.aload_n 3, 1) := by decide +kernel
theorem dX9_holds_148 : decode cX9_holds 148 = .ok (.getfield 201, 3) := by decide +kernel
theorem dX9_holds_151 : decode cX9_holds 151 = .ok (.ishr, 1) := by decide +kernel
theorem dX9_holds_152 : decode cX9_holds 152 = .ok (.iconst 1, 1) := by decide +kernel
theorem dX9_holds_153 : decode cX9_holds 153 = .ok (.iand, 1) := by decide +kernel
theorem dX9_holds_154 : decode cX9_holds 154 = .ok (.iconst 1, 1) := by decide +kernel
theorem dX9_holds_155 : decode cX9_holds 155 = .ok (.if_icmp .ne 7, 3) := by decide +kernel
theorem dX9_holds_158 : decode cX9_holds 158 = .ok (.iconst 1, 1) := by decide +kernel
theorem dX9_holds_159 : decode cX9_holds 159 = .ok (.goto 4, 3) := by decide +kernel
theorem dX9_holds_162 : decode cX9_holds 162 = .ok (.iconst 0, 1) := by decide +kernel
theorem dX9_holds_163 : decode cX9_holds 163 = .ok (.ireturn, 1) := by decide +kernel
theorem dX9_holds_164 : decode cX9_holds 164 = .ok (.aload_n 2, 1) := by decide +kernel
theorem dX9_holds_165 : decode cX9_holds 165 = .ok (.getfield 204, 3) := by decide +kernel
theorem dX9_holds_168 : decode cX9_holds 168 = .ok (.aload_n 3, 1) := by decide +kernel
theorem dX9_holds_169 : decode cX9_holds 169 = .ok (.getfield 207, 3) := by decide +kernel
theorem dX9_holds_172 : decode cX9_holds 172 = .ok (.if_icmp .ge 7, 3) := by decide +kernel
theorem dX9_holds_175 : decode cX9_holds 175 = .ok (.iconst 1, 1) := by decide +kernel
theorem dX9_holds_176 : decode cX9_holds 176 = .ok (.goto 4, 3) := by decide +kernel
theorem dX9_holds_179 : decode cX9_holds 179 = .ok (.iconst 0, 1) := by decide +kernel
theorem dX9_holds_180 : decode cX9_holds 180 = .ok (.ireturn, 1) := by decide +kernel
theorem dX9_holds_181 : decode cX9_holds 181 = .ok (.iconst 1, 1) := by decide +kernel
theorem dX9_holds_182 : decode cX9_holds 182 = .ok (.ireturn, 1) := by decide +kernel
theorem dX9_awaitLevel_0 : decode cX9_awaitLevel 0 = .ok (.aload_n 1, 1) := by decide +kernel
theorem dX9_awaitLevel_1 : decode cX9_awaitLevel 1 = .ok (.getfield 154, 3) := by decide +kernel
theorem dX9_awaitLevel_4 : decode cX9_awaitLevel 4 = .ok (.getstatic 210, 3) := by decide +kernel
theorem dX9_awaitLevel_7 : decode cX9_awaitLevel 7 = .ok (.if_acmp .ne 37, 3) := by decide +kernel
theorem dX9_awaitLevel_10 : decode cX9_awaitLevel 10 = .ok (.aload_n 2, 1) := by decide +kernel
theorem dX9_awaitLevel_11 : decode cX9_awaitLevel 11 = .ok (.getfield 213, 3) := by decide +kernel
theorem dX9_awaitLevel_14 : decode cX9_awaitLevel 14 = .ok (.aload_n 1, 1) := by decide +kernel
theorem dX9_awaitLevel_15 : decode cX9_awaitLevel 15 = .ok (.getfield 161, 3) := by decide +kernel
theorem dX9_awaitLevel_18 : decode cX9_awaitLevel 18 = .ok (.iadd, 1) := by decide +kernel
theorem dX9_awaitLevel_19 : decode cX9_awaitLevel 19 = .ok (.bipush 16, 2) := by decide +kernel
theorem dX9_awaitLevel_21 : decode cX9_awaitLevel 21 = .ok (.irem, 1) := by decide +kernel
theorem dX9_awaitLevel_22 : decode cX9_awaitLevel 22 = .ok (.istore_n 3, 1) := by decide +kernel
theorem dX9_awaitLevel_23 : decode cX9_awaitLevel 23 = .ok (.aload_n 0, 1) := by decide +kernel
theorem dX9_awaitLevel_24 : decode cX9_awaitLevel 24 = .ok (.getfield 28, 3) := by decide +kernel
theorem dX9_awaitLevel_27 : decode cX9_awaitLevel 27 = .ok (.iload_n 3, 1) := by decide +kernel
theorem dX9_awaitLevel_28 : decode cX9_awaitLevel 28 = .ok (.ishr, 1) := by decide +kernel
theorem dX9_awaitLevel_29 : decode cX9_awaitLevel 29 = .ok (.iconst 1, 1) := by decide +kernel
theorem dX9_awaitLevel_30 : decode cX9_awaitLevel 30 = .ok (.iand, 1) := by decide +kernel
theorem dX9_awaitLevel_31 : decode cX9_awaitLevel 31 = .ok (.aload_n 1, 1) := by decide +kernel
theorem dX9_awaitLevel_32 : decode cX9_awaitLevel 32 = .ok (.getfield 216, 3) := by decide +kernel
theorem dX9_awaitLevel_35 : decode cX9_awaitLevel 35 = .ok (.if_icmp .ne 7, 3) := by decide +kernel
theorem dX9_awaitLevel_38 : decode cX9_awaitLevel 38 = .ok (.iconst 0, 1) := by decide +kernel
theorem dX9_awaitLevel_39 : decode cX9_awaitLevel 39 = .ok (.goto 4, 3) := by decide +kernel
theorem dX9_awaitLevel_42 : decode cX9_awaitLevel 42 = .ok (.iconst 1, 1) := by decide +kernel
theorem dX9_awaitLevel_43 : decode cX9_awaitLevel 43 = .ok (.ireturn, 1) := by decide +kernel
theorem dX9_awaitLevel_44 : decode cX9_awaitLevel 44 = .ok (.aload_n 0, 1) := by decide +kernel
theorem dX9_awaitLevel_45 : decode cX9_awaitLevel 45 = .ok (.getfield 34, 3) := by decide +kernel
theorem dX9_awaitLevel_48 : decode cX9_awaitLevel 48 = .ok (.aload_n 1, 1) := by decide +kernel
theorem dX9_awaitLevel_49 : decode cX9_awaitLevel 49 = .ok (.getfield 161, 3) := by decide +kernel
theorem dX9_awaitLevel_52 : decode cX9_awaitLevel 52 = .ok (.ishr, 1) := by decide +kernel
theorem dX9_awaitLevel_53 : decode cX9_awaitLevel 53 = .ok (.iconst 1, 1) := by decide +kernel
theorem dX9_awaitLevel_54 : decode cX9_awaitLevel 54 = .ok (.iand, 1) := by decide +kernel
theorem dX9_awaitLevel_55 : decode cX9_awaitLevel 55 = .ok (.aload_n 1, 1) := by decide +kernel
theorem dX9_awaitLevel_56 : decode cX9_awaitLevel 56 = .ok (.getfield 216, 3) := by decide +kernel
theorem dX9_awaitLevel_59 : decode cX9_awaitLevel 59 = .ok (.if_icmp .eq 5, 3) := by decide +kernel
theorem dX9_awaitLevel_62 : decode cX9_awaitLevel 62 = .ok (.iconst 1, 1) := by decide +kernel
theorem dX9_awaitLevel_63 : decode cX9_awaitLevel 63 = .ok (.ireturn, 1) := by decide +kernel
theorem dX9_awaitLevel_64 : decode cX9_awaitLevel 64 = .ok (.aload_n 1, 1) := by decide +kernel
theorem dX9_awaitLevel_65 : decode cX9_awaitLevel 65 = .ok (.getfield 216, 3) := by decide +kernel
theorem dX9_awaitLevel_68 : decode cX9_awaitLevel 68 = .ok (.iconst 1, 1) := by decide +kernel
theorem dX9_awaitLevel_69 : decode cX9_awaitLevel 69 = .ok (.if_icmp .ne 18, 3) := by decide +kernel
theorem dX9_awaitLevel_72 : decode cX9_awaitLevel 72 = .ok (.aload_n 0, 1) := by decide +kernel
theorem dX9_awaitLevel_73 : decode cX9_awaitLevel 73 = .ok (.dup, 1) := by decide +kernel
theorem dX9_awaitLevel_74 : decode cX9_awaitLevel 74 = .ok (.getfield 38, 3) := by decide +kernel
theorem dX9_awaitLevel_77 : decode cX9_awaitLevel 77 = .ok (.iconst 1, 1) := by decide +kernel
theorem dX9_awaitLevel_78 : decode cX9_awaitLevel 78 = .ok (.aload_n 1, 1) := by decide +kernel
theorem dX9_awaitLevel_79 : decode cX9_awaitLevel 79 = .ok (.getfield 161, 3) := by decide +kernel
theorem dX9_awaitLevel_82 : decode cX9_awaitLevel 82 = .ok (.ishl, 1) := by decide +kernel
theorem dX9_awaitLevel_83 : decode cX9_awaitLevel 83 = .ok (.ior, 1) := by decide +kernel
theorem dX9_awaitLevel_84 : decode cX9_awaitLevel 84 = .ok (.putfield 38, 3) := by decide +kernel
theorem dX9_awaitLevel_87 : decode cX9_awaitLevel 87 = .ok (.iconst 0, 1) := by decide +kernel
theorem dX9_awaitLevel_88 : decode cX9_awaitLevel 88 = .ok (.ireturn, 1) := by decide +kernel
theorem dX9_shiftIn_0 : decode cX9_shiftIn 0 = .ok (.aload_n 1, 1) := by decide +kernel
theorem dX9_shiftIn_1 : decode cX9_shiftIn 1 = .ok (.getfield 161, 3) := by decide +kernel
theorem dX9_shiftIn_4 : decode cX9_shiftIn 4 = .ok (.istore 4, 2) := by decide +kernel
theorem dX9_shiftIn_6 : decode cX9_shiftIn 6 = .ok (.aload_n 0, 1) := by decide +kernel
theorem dX9_shiftIn_7 : decode cX9_shiftIn 7 = .ok (.aload_n 1, 1) := by decide +kernel
theorem dX9_shiftIn_8 : decode cX9_shiftIn 8 = .ok (.getfield 154, 3) := by decide +kernel
theorem dX9_shiftIn_11 : decode cX9_shiftIn 11 = .ok (.aload_n 2, 1) := by decide +kernel
theorem dX9_shiftIn_12 : decode cX9_shiftIn 12 = .ok (.aload_n 3, 1) := by decide +kernel
theorem dX9_shiftIn_13 : decode cX9_shiftIn 13 = .ok (.invokevirtual 219, 3) := by decide +kernel
theorem dX9_shiftIn_16 : decode cX9_shiftIn 16 = .ok (.istore 5, 2) := by decide +kernel
theorem dX9_shiftIn_18 : decode cX9_shiftIn 18 = .ok (.aload_n 2, 1) := by decide +kernel
theorem dX9_shiftIn_19 : decode cX9_shiftIn 19 = .ok (.getfield 223, 3) := by decide +kernel
theorem dX9_shiftIn_22 : decode cX9_shiftIn 22 = .ok (.iload 4, 2) := by decide +kernel
theorem dX9_shiftIn_24 : decode cX9_shiftIn 24 = .ok (.iadd, 1) := by decide +kernel
theorem dX9_shiftIn_25 : decode cX9_shiftIn 25 = .ok (.bipush 32, 2) := by decide +kernel
theorem dX9_shiftIn_27 : decode cX9_shiftIn 27 = .ok (.invokestatic 226, 3) := by decide +kernel
theorem dX9_shiftIn_30 : decode cX9_shiftIn 30 = .ok (.istore 6, 2) := by decide +kernel
theorem dX9_shiftIn_32 : decode cX9_shiftIn 32 = .ok (.aload_n 3, 1) := by decide +kernel
theorem dX9_shiftIn_33 : decode cX9_shiftIn 33 = .ok (.getfield 231, 3) := by decide +kernel
theorem dX9_shiftIn_36 : decode cX9_shiftIn 36 = .ok (.ifCond .eq 16, 3) := by decide +kernel
theorem dX9_shiftIn_39 : decode cX9_shiftIn 39 = .ok (.iload 6, 2) := by decide +kernel
theorem dX9_shiftIn_41 : decode cX9_shiftIn 41 = .ok (.aload_n 3, 1) := by decide +kernel
theorem dX9_shiftIn_42 : decode cX9_shiftIn 42 = .ok (.getfield 234, 3) := by decide +kernel
theorem dX9_shiftIn_45 : decode cX9_shiftIn 45 = .ok (.if_icmp .lt 7, 3) := by decide +kernel
theorem dX9_shiftIn_48 : decode cX9_shiftIn 48 = .ok (.iconst 1, 1) := by decide +kernel
theorem dX9_shiftIn_49 : decode cX9_shiftIn 49 = .ok (.goto 4, 3) := by decide +kernel
theorem dX9_shiftIn_52 : decode cX9_shiftIn 52 = .ok (.iconst 0, 1) := by decide +kernel
theorem dX9_shiftIn_53 : decode cX9_shiftIn 53 = .ok (.istore 7, 2) := by decide +kernel
theorem dX9_shiftIn_55 : decode cX9_shiftIn 55 = .ok (.iload 7, 2) := by decide +kernel
theorem dX9_shiftIn_57 : decode cX9_shiftIn 57 = .ok (.ifCond .eq 15, 3) := by decide +kernel
theorem dX9_shiftIn_60 : decode cX9_shiftIn 60 = .ok (.aload_n 2, 1) := by decide +kernel
theorem dX9_shiftIn_61 : decode cX9_shiftIn 61 = .ok (.getfield 237, 3) := by decide +kernel
theorem dX9_shiftIn_64 : decode cX9_shiftIn 64 = .ok (.invokevirtual 241, 3) := by decide +kernel
theorem dX9_shiftIn_67 : decode cX9_shiftIn 67 = .ok (.ifCond .eq 5, 3) := by decide +kernel
theorem dX9_shiftIn_70 : decode cX9_shiftIn 70 = .ok (.iconst 3, 1) := by decide +kernel
theorem dX9_shiftIn_71 : decode cX9_shiftIn 71 = .ok (.ireturn, 1) := by decide +kernel
theorem dX9_shiftIn_72 : decode cX9_shiftIn 72 = .ok (.iload 4, 2) := by decide +kernel
theorem dX9_shiftIn_74 : decode cX9_shiftIn 74 = .ok (.bipush 32, 2) := by decide +kernel
theorem dX9_shiftIn_76 : decode cX9_shiftIn 76 = .ok (.if_icmp .ne 14, 3) := by decide +kernel
theorem dX9_shiftIn_79 : decode cX9_shiftIn 79 = .ok (.aload_n 2, 1) := by decide +kernel
theorem dX9_shiftIn_80 : decode cX9_shiftIn 80 = .ok (.iload 5, 2) := by decide +kernel
theorem dX9_shiftIn_82 : decode cX9_shiftIn 82 = .ok (.iload 6, 2) := by decide +kernel
theorem dX9_shiftIn_84 : decode cX9_shiftIn 84 = .ok (.invokevirtual 246, 3) := by decide +kernel
theorem dX9_shiftIn_87 : decode cX9_shiftIn 87 = .ok (.goto 58, 3) := by decide +kernel
theorem dX9_shiftIn_90 : decode cX9_shiftIn 90 = .ok (.aload_n 3, 1) := by decide +kernel
theorem dX9_shiftIn_91 : decode cX9_shiftIn 91 = .ok (.getfield 249, 3) := by decide +kernel
theorem dX9_shiftIn_94 : decode cX9_shiftIn 94 = .ok (.ifCond .eq 29, 3) := by decide +kernel
theorem dX9_shiftIn_97 : decode cX9_shiftIn 97 = .ok (.aload_n 2, 1) := by decide +kernel
theorem dX9_shiftIn_98 : decode cX9_shiftIn 98 = .ok (.aload_n 2, 1) := by decide +kernel
theorem dX9_shiftIn_99 : decode cX9_shiftIn 99 = .ok (.getfield 252, 3) := by decide +kernel
theorem dX9_shiftIn_102 : decode cX9_shiftIn 102 = .ok (.iload 4, 2) := by decide +kernel
theorem dX9_shiftIn_104 : decode cX9_shiftIn 104 = .ok (.ishl, 1) := by decide +kernel
theorem dX9_shiftIn_105 : decode cX9_shiftIn 105 = .ok (.iload 5, 2) := by decide +kernel
theorem dX9_shiftIn_107 : decode cX9_shiftIn 107 = .ok (.iconst 1, 1) := by decide +kernel
theorem dX9_shiftIn_108 : decode cX9_shiftIn 108 = .ok (.iload 4, 2) := by decide +kernel
theorem dX9_shiftIn_110 : decode cX9_shiftIn 110 = .ok (.ishl, 1) := by decide +kernel
theorem dX9_shiftIn_111 : decode cX9_shiftIn 111 = .ok (.iconst 1, 1) := by decide +kernel
theorem dX9_shiftIn_112 : decode cX9_shiftIn 112 = .ok (.isub, 1) := by decide +kernel
theorem dX9_shiftIn_113 : decode cX9_shiftIn 113 = .ok (.iand, 1) := by decide +kernel
theorem dX9_shiftIn_114 : decode cX9_shiftIn 114 = .ok (.ior, 1) := by decide +kernel
theorem dX9_shiftIn_115 : decode cX9_shiftIn 115 = .ok (.iload 6, 2) := by decide +kernel
theorem dX9_shiftIn_117 : decode cX9_shiftIn 117 = .ok (.invokevirtual 246, 3) := by decide +kernel
theorem dX9_shiftIn_120 : decode cX9_shiftIn 120 = .ok (.goto 25, 3) := by decide +kernel
theorem dX9_shiftIn_123 : decode cX9_shiftIn 123 = .ok (.aload_n 2, 1) := by decide +kernel
theorem dX9_shiftIn_124 : decode cX9_shiftIn 124 = .ok (.aload_n 2, 1) := by decide +kernel
theorem dX9_shiftIn_125 : decode cX9_shiftIn 125 = .ok (.getfield 252, 3) := by decide +kernel
theorem dX9_shiftIn_128 : decode cX9_shiftIn 128 = .ok (.iload 4, 2) := by decide +kernel
theorem dX9_shiftIn_130 : decode cX9_shiftIn 130 = .ok (.iushr, 1) := by decide +kernel
theorem dX9_shiftIn_131 : decode cX9_shiftIn 131 = .ok (.iload 5, 2) := by decide +kernel
theorem dX9_shiftIn_133 : decode cX9_shiftIn 133 = .ok (.bipush 32, 2) := by decide +kernel
theorem dX9_shiftIn_135 : decode cX9_shiftIn 135 = .ok (.iload 4, 2) := by decide +kernel
theorem dX9_shiftIn_137 : decode cX9_shiftIn 137 = .ok (.isub, 1) := by decide +kernel
theorem dX9_shiftIn_138 : decode cX9_shiftIn 138 = .ok (.ishl, 1) := by decide +kernel
theorem dX9_shiftIn_139 : decode cX9_shiftIn 139 = .ok (.ior, 1) := by decide +kernel
theorem dX9_shiftIn_140 : decode cX9_shiftIn 140 = .ok (.iload 6, 2) := by decide +kernel
theorem dX9_shiftIn_142 : decode cX9_shiftIn 142 = .ok (.invokevirtual 246, 3) := by decide +kernel
theorem dX9_shiftIn_145 : decode cX9_shiftIn 145 = .ok (.iload 7, 2) := by decide +kernel
theorem dX9_shiftIn_147 : decode cX9_shiftIn 147 = .ok (.ifCond .eq 7, 3) := by decide +kernel
theorem dX9_shiftIn_150 : decode cX9_shiftIn 150 = .ok (.aload_n 2, 1) := by decide +kernel
theorem dX9_shiftIn_151 : decode cX9_shiftIn 151 = .ok (.invokevirtual 255, 3) := by decide +kernel
theorem dX9_shiftIn_154 : decode cX9_shiftIn 154 = .ok (.iconst 0, 1) := by decide +kernel
theorem dX9_shiftIn_155 : decode cX9_shiftIn 155 = .ok (.ireturn, 1) := by decide +kernel
theorem dX9_shiftOut_0 : decode cX9_shiftOut 0 = .ok (.aload_n 1, 1) := by decide +kernel
theorem dX9_shiftOut_1 : decode cX9_shiftOut 1 = .ok (.getfield 161, 3) := by decide +kernel
theorem dX9_shiftOut_4 : decode cX9_shiftOut 4 = .ok (.istore 4, 2) := by decide +kernel
theorem dX9_shiftOut_6 : decode cX9_shiftOut 6 = .ok (.aload_n 3, 1) := by decide +kernel
theorem dX9_shiftOut_7 : decode cX9_shiftOut 7 = .ok (.getfield 258, 3) := by decide +kernel
theorem dX9_shiftOut_10 : decode cX9_shiftOut 10 = .ok (.ifCond .eq 30, 3) := by decide +kernel
theorem dX9_shiftOut_13 : decode cX9_shiftOut 13 = .ok (.aload_n 2, 1) := by decide +kernel
theorem dX9_shiftOut_14 : decode cX9_shiftOut 14 = .ok (.getfield 204, 3) := by decide +kernel
theorem dX9_shiftOut_17 : decode cX9_shiftOut 17 = .ok (.aload_n 3, 1) := by decide +kernel
theorem dX9_shiftOut_18 : decode cX9_shiftOut 18 = .ok (.getfield 207, 3) := by decide +kernel
theorem dX9_shiftOut_21 : decode cX9_shiftOut 21 = .ok (.if_icmp .lt 19, 3) := by decide +kernel
theorem dX9_shiftOut_24 : decode cX9_shiftOut 24 = .ok (.aload_n 2, 1) := by decide +kernel
theorem dX9_shiftOut_25 : decode cX9_shiftOut 25 = .ok (.getfield 261, 3) := by decide +kernel
theorem dX9_shiftOut_28 : decode cX9_shiftOut 28 = .ok (.getfield 264, 3) := by decide +kernel
theorem dX9_shiftOut_31 : decode cX9_shiftOut 31 = .ok (.ifCond .ne 5, 3) := by decide +kernel
theorem dX9_shiftOut_34 : decode cX9_shiftOut 34 = .ok (.iconst 2, 1) := by decide +kernel
theorem dX9_shiftOut_35 : decode cX9_shiftOut 35 = .ok (.ireturn, 1) := by decide +kernel
theorem dX9_shiftOut_36 : decode cX9_shiftOut 36 = .ok (.aload_n 2, 1) := by decide +kernel
theorem dX9_shiftOut_37 : decode cX9_shiftOut 37 = .ok (.invokevirtual 267, 3) := by decide +kernel
theorem dX9_shiftOut_40 : decode cX9_shiftOut 40 = .ok (.aload_n 2, 1) := by decide +kernel
theorem dX9_shiftOut_41 : decode cX9_shiftOut 41 = .ok (.getfield 270, 3) := by decide +kernel
theorem dX9_shiftOut_44 : decode cX9_shiftOut 44 = .ok (.istore 5, 2) := by decide +kernel
theorem dX9_shiftOut_46 : decode cX9_shiftOut 46 = .ok (.iload 4, 2) := by decide +kernel
theorem dX9_shiftOut_48 : decode cX9_shiftOut 48 = .ok (.bipush 32, 2) := by decide +kernel
theorem dX9_shiftOut_50 : decode cX9_shiftOut 50 = .ok (.if_icmp .ne 11, 3) := by decide +kernel
theorem dX9_shiftOut_53 : decode cX9_shiftOut 53 = .ok (.aload_n 2, 1) := by decide +kernel
theorem dX9_shiftOut_54 : decode cX9_shiftOut 54 = .ok (.iconst 0, 1) := by decide +kernel
theorem dX9_shiftOut_55 : decode cX9_shiftOut 55 = .ok (.putfield 270, 3) := by decide +kernel
theorem dX9_shiftOut_58 : decode cX9_shiftOut 58 = .ok (.goto 56, 3) := by decide +kernel
theorem dX9_shiftOut_61 : decode cX9_shiftOut 61 = .ok (.aload_n 3, 1) := by decide +kernel
theorem dX9_shiftOut_62 : decode cX9_shiftOut 62 = .ok (.getfield 273, 3) := by decide +kernel
theorem dX9_shiftOut_65 : decode cX9_shiftOut 65 = .ok (.ifCond .eq 27, 3) := by decide +kernel
theorem dX9_shiftOut_68 : decode cX9_shiftOut 68 = .ok (.iload 5, 2) := by decide +kernel
theorem dX9_shiftOut_70 : decode cX9_shiftOut 70 = .ok (.bipush 32, 2) := by decide +kernel
theorem dX9_shiftOut_72 : decode cX9_shiftOut 72 = .ok (.iload 4, 2) := by decide +kernel
theorem dX9_shiftOut_74 : decode cX9_shiftOut 74 = .ok (.isub, 1) := by decide +kernel
theorem dX9_shiftOut_75 : decode cX9_shiftOut 75 = .ok (.iushr, 1) := by decide +kernel
theorem dX9_shiftOut_76 : decode cX9_shiftOut 76 = .ok (.istore 5, 2) := by decide +kernel
theorem dX9_shiftOut_78 : decode cX9_shiftOut 78 = .ok (.aload_n 2, 1) := by decide +kernel
theorem dX9_shiftOut_79 : decode cX9_shiftOut 79 = .ok (.dup, 1) := by decide +kernel
theorem dX9_shiftOut_80 : decode cX9_shiftOut 80 = .ok (.getfield 270, 3) := by decide +kernel
theorem dX9_shiftOut_83 : decode cX9_shiftOut 83 = .ok (.iload 4, 2) := by decide +kernel
theorem dX9_shiftOut_85 : decode cX9_shiftOut 85 = .ok (.ishl, 1) := by decide +kernel
theorem dX9_shiftOut_86 : decode cX9_shiftOut 86 = .ok (.putfield 270, 3) := by decide +kernel
theorem dX9_shiftOut_89 : decode cX9_shiftOut 89 = .ok (.goto 25, 3) := by decide +kernel
theorem dX9_shiftOut_92 : decode cX9_shiftOut 92 = .ok (.iload 5, 2) := by decide +kernel
theorem dX9_shiftOut_94 : decode cX9_shiftOut 94 = .ok (.iconst 1, 1) := by decide +kernel
theorem dX9_shiftOut_95 : decode cX9_shiftOut 95 = .ok (.iload 4, 2) := by decide +kernel
theorem dX9_shiftOut_97 : decode cX9_shiftOut 97 = .ok (.ishl, 1) := by decide +kernel
theorem dX9_shiftOut_98 : decode cX9_shiftOut 98 = .ok (.iconst 1, 1) := by decide +kernel
theorem dX9_shiftOut_99 : decode cX9_shiftOut 99 = .ok (.isub, 1) := by decide +kernel
theorem dX9_shiftOut_100 : decode cX9_shiftOut 100 = .ok (.iand, 1) := by decide +kernel
theorem dX9_shiftOut_101 : decode cX9_shiftOut 101 = .ok (.istore 5, 2) := by decide +kernel
theorem dX9_shiftOut_103 : decode cX9_shiftOut 103 = .ok (.aload_n 2, 1) := by decide +kernel
theorem dX9_shiftOut_104 : decode cX9_shiftOut 104 = .ok (.dup, 1) := by decide +kernel
theorem dX9_shiftOut_105 : decode cX9_shiftOut 105 = .ok (.getfield 270, 3) := by decide +kernel
theorem dX9_shiftOut_108 : decode cX9_shiftOut 108 = .ok (.iload 4, 2) := by decide +kernel
theorem dX9_shiftOut_110 : decode cX9_shiftOut 110 = .ok (.iushr, 1) := by decide +kernel
theorem dX9_shiftOut_111 : decode cX9_shiftOut 111 = .ok (.putfield 270, 3) := by decide +kernel
theorem dX9_shiftOut_114 : decode cX9_shiftOut 114 = .ok (.aload_n 2, 1) := by decide +kernel
theorem dX9_shiftOut_115 : decode cX9_shiftOut 115 = .ok (.aload_n 2, 1) := by decide +kernel
theorem dX9_shiftOut_116 : decode cX9_shiftOut 116 = .ok (.getfield 204, 3) := by decide +kernel
theorem dX9_shiftOut_119 : decode cX9_shiftOut 119 = .ok (.iload 4, 2) := by decide +kernel
theorem dX9_shiftOut_121 : decode cX9_shiftOut 121 = .ok (.iadd, 1) := by decide +kernel
theorem dX9_shiftOut_122 : decode cX9_shiftOut 122 = .ok (.bipush 32, 2) := by decide +kernel
theorem dX9_shiftOut_124 : decode cX9_shiftOut 124 = .ok (.invokestatic 226, 3) := by decide +kernel
theorem dX9_shiftOut_127 : decode cX9_shiftOut 127 = .ok (.putfield 204, 3) := by decide +kernel
theorem dX9_shiftOut_130 : decode cX9_shiftOut 130 = .ok (.aload_n 0, 1) := by decide +kernel
theorem dX9_shiftOut_131 : decode cX9_shiftOut 131 = .ok (.aload_n 1, 1) := by decide +kernel
theorem dX9_shiftOut_132 : decode cX9_shiftOut 132 = .ok (.getfield 154, 3) := by decide +kernel
theorem dX9_shiftOut_135 : decode cX9_shiftOut 135 = .ok (.iload 5, 2) := by decide +kernel
theorem dX9_shiftOut_137 : decode cX9_shiftOut 137 = .ok (.aload_n 2, 1) := by decide +kernel
theorem dX9_shiftOut_138 : decode cX9_shiftOut 138 = .ok (.aload_n 3, 1) := by decide +kernel
theorem dX9_shiftOut_139 : decode cX9_shiftOut 139 = .ok (.invokevirtual 183, 3) := by decide +kernel
theorem dX9_shiftOut_142 : decode cX9_shiftOut 142 = .ok (.aload_n 1, 1) := by decide +kernel
theorem dX9_shiftOut_143 : decode cX9_shiftOut 143 = .ok (.getfield 154, 3) := by decide +kernel
theorem dX9_shiftOut_146 : decode cX9_shiftOut 146 = .ok (.getstatic 276, 3) := by decide +kernel
theorem dX9_shiftOut_149 : decode cX9_shiftOut 149 = .ok (.if_acmp .ne 9, 3) := by decide +kernel
theorem dX9_shiftOut_152 : decode cX9_shiftOut 152 = .ok (.aload_n 2, 1) := by decide +kernel
theorem dX9_shiftOut_153 : decode cX9_shiftOut 153 = .ok (.iload 4, 2) := by decide +kernel
theorem dX9_shiftOut_155 : decode cX9_shiftOut 155 = .ok (.putfield 223, 3) := by decide +kernel
theorem dX9_shiftOut_158 : decode cX9_shiftOut 158 = .ok (.iconst 0, 1) := by decide +kernel
theorem dX9_shiftOut_159 : decode cX9_shiftOut 159 = .ok (.ireturn, 1) := by decide +kernel
theorem dX9_push_0 : decode cX9_push 0 = .ok (.aload_n 1, 1) := by decide +kernel
theorem dX9_push_1 : decode cX9_push 1 = .ok (.getfield 154, 3) := by decide +kernel
theorem dX9_push_4 : decode cX9_push 4 = .ok (.getstatic 279, 3) := by decide +kernel
theorem dX9_push_7 : decode cX9_push 7 = .ok (.if_acmp .ne 16, 3) := by decide +kernel
theorem dX9_push_10 : decode cX9_push 10 = .ok (.aload_n 2, 1) := by decide +kernel
theorem dX9_push_11 : decode cX9_push 11 = .ok (.getfield 223, 3) := by decide +kernel
theorem dX9_push_14 : decode cX9_push 14 = .ok (.aload_n 3, 1) := by decide +kernel
theorem dX9_push_15 : decode cX9_push 15 = .ok (.getfield 234, 3) := by decide +kernel
theorem dX9_push_18 : decode cX9_push 18 = .ok (.if_icmp .ge 5, 3) := by decide +kernel
theorem dX9_push_21 : decode cX9_push 21 = .ok (.iconst 0, 1) := by decide +kernel
theorem dX9_push_22 : decode cX9_push 22 = .ok (.ireturn, 1) := by decide +kernel
theorem dX9_push_23 : decode cX9_push 23 = .ok (.aload_n 2, 1) := by decide +kernel
theorem dX9_push_24 : decode cX9_push 24 = .ok (.getfield 237, 3) := by decide +kernel
theorem dX9_push_27 : decode cX9_push 27 = .ok (.invokevirtual 241, 3) := by decide +kernel
theorem dX9_push_30 : decode cX9_push 30 = .ok (.ifCond .ne 9, 3) := by decide +kernel
theorem dX9_push_33 : decode cX9_push 33 = .ok (.aload_n 2, 1) := by decide +kernel
theorem dX9_push_34 : decode cX9_push 34 = .ok (.invokevirtual 255, 3) := by decide +kernel
theorem dX9_push_37 : decode cX9_push 37 = .ok (.iconst 0, 1) := by decide +kernel
theorem dX9_push_38 : decode cX9_push 38 = .ok (.ireturn, 1) := by decide +kernel
theorem dX9_push_39 : decode cX9_push 39 = .ok (.aload_n 1, 1) := by decide +kernel
theorem dX9_push_40 : decode cX9_push 40 = .ok (.getfield 282, 3) := by decide +kernel
theorem dX9_push_43 : decode cX9_push 43 = .ok (.getstatic 285, 3) := by decide +kernel
theorem dX9_push_46 : decode cX9_push 46 = .ok (.if_acmp .eq 5, 3) := by decide +kernel
theorem dX9_push_49 : decode cX9_push 49 = .ok (.iconst 3, 1) := by decide +kernel
theorem dX9_push_50 : decode cX9_push 50 = .ok (.ireturn, 1) := by decide +kernel
theorem dX9_push_51 : decode cX9_push 51 = .ok (.aload_n 2, 1) := by decide +kernel
theorem dX9_push_52 : decode cX9_push 52 = .ok (.iconst 0, 1) := by decide +kernel
theorem dX9_push_53 : decode cX9_push 53 = .ok (.iconst 0, 1) := by decide +kernel
theorem dX9_push_54 : decode cX9_push 54 = .ok (.invokevirtual 246, 3) := by decide +kernel
theorem dX9_push_57 : decode cX9_push 57 = .ok (.aload_n 2, 1) := by decide +kernel
theorem dX9_push_58 : decode cX9_push 58 = .ok (.getfield 100, 3) := by decide +kernel
theorem dX9_push_61 : decode cX9_push 61 = .ok (.iconst 5, 1) := by decide +kernel
theorem dX9_push_62 : decode cX9_push 62 = .ok (.dup2, 1) := by decide +kernel
theorem dX9_push_63 : decode cX9_push 63 = .ok (.iaload, 1) := by decide +kernel
theorem dX9_push_64 : decode cX9_push 64 = .ok (.iconst 1, 1) := by decide +kernel
theorem dX9_push_65 : decode cX9_push 65 = .ok (.iadd, 1) := by decide +kernel
theorem dX9_push_66 : decode cX9_push 66 = .ok (.iastore, 1) := by decide +kernel
theorem dX9_push_67 : decode cX9_push 67 = .ok (.iconst 0, 1) := by decide +kernel
theorem dX9_push_68 : decode cX9_push 68 = .ok (.ireturn, 1) := by decide +kernel
theorem dX9_pull_0 : decode cX9_pull 0 = .ok (.aload_n 1, 1) := by decide +kernel
theorem dX9_pull_1 : decode cX9_pull 1 = .ok (.getfield 154, 3) := by decide +kernel
theorem dX9_pull_4 : decode cX9_pull 4 = .ok (.getstatic 288, 3) := by decide +kernel
theorem dX9_pull_7 : decode cX9_pull 7 = .ok (.if_acmp .ne 16, 3) := by decide +kernel
theorem dX9_pull_10 : decode cX9_pull 10 = .ok (.aload_n 2, 1) := by decide +kernel
theorem dX9_pull_11 : decode cX9_pull 11 = .ok (.getfield 204, 3) := by decide +kernel
theorem dX9_pull_14 : decode cX9_pull 14 = .ok (.aload_n 3, 1) := by decide +kernel
theorem dX9_pull_15 : decode cX9_pull 15 = .ok (.getfield 207, 3) := by decide +kernel
theorem dX9_pull_18 : decode cX9_pull 18 = .ok (.if_icmp .ge 5, 3) := by decide +kernel
theorem dX9_pull_21 : decode cX9_pull 21 = .ok (.iconst 0, 1) := by decide +kernel
theorem dX9_pull_22 : decode cX9_pull 22 = .ok (.ireturn, 1) := by decide +kernel
theorem dX9_pull_23 : decode cX9_pull 23 = .ok (.aload_n 2, 1) := by decide +kernel
theorem dX9_pull_24 : decode cX9_pull 24 = .ok (.getfield 261, 3) := by decide +kernel
theorem dX9_pull_27 : decode cX9_pull 27 = .ok (.getfield 264, 3) := by decide +kernel
theorem dX9_pull_30 : decode cX9_pull 30 = .ok (.ifCond .le 9, 3) := by decide +kernel
theorem dX9_pull_33 : decode cX9_pull 33 = .ok (.aload_n 2, 1) := by decide +kernel
theorem dX9_pull_34 : decode cX9_pull 34 = .ok (.invokevirtual 267, 3) := by decide +kernel
theorem dX9_pull_37 : decode cX9_pull 37 = .ok (.iconst 0, 1) := by decide +kernel
theorem dX9_pull_38 : decode cX9_pull 38 = .ok (.ireturn, 1) := by decide +kernel
theorem dX9_pull_39 : decode cX9_pull 39 = .ok (.aload_n 1, 1) := by decide +kernel
theorem dX9_pull_40 : decode cX9_pull 40 = .ok (.getfield 282, 3) := by decide +kernel
theorem dX9_pull_43 : decode cX9_pull 43 = .ok (.getstatic 285, 3) := by decide +kernel
theorem dX9_pull_46 : decode cX9_pull 46 = .ok (.if_acmp .eq 5, 3) := by decide +kernel
theorem dX9_pull_49 : decode cX9_pull 49 = .ok (.iconst 2, 1) := by decide +kernel
theorem dX9_pull_50 : decode cX9_pull 50 = .ok (.ireturn, 1) := by decide +kernel
theorem dX9_pull_51 : decode cX9_pull 51 = .ok (.aload_n 2, 1) := by decide +kernel
theorem dX9_pull_52 : decode cX9_pull 52 = .ok (.aload_n 2, 1) := by decide +kernel
theorem dX9_pull_53 : decode cX9_pull 53 = .ok (.getfield 195, 3) := by decide +kernel
theorem dX9_pull_56 : decode cX9_pull 56 = .ok (.invokevirtual 291, 3) := by decide +kernel
theorem dX9_pull_59 : decode cX9_pull 59 = .ok (.iconst 0, 1) := by decide +kernel
theorem dX9_pull_60 : decode cX9_pull 60 = .ok (.ireturn, 1) := by decide +kernel
theorem dX9_signal_0 : decode cX9_signal 0 = .ok (.aload_n 2, 1) := by decide +kernel
theorem dX9_signal_1 : decode cX9_signal 1 = .ok (.getfield 104, 3) := by decide +kernel
theorem dX9_signal_4 : decode cX9_signal 4 = .ok (.ifCond .ne 20, 3) := by decide +kernel
theorem dX9_signal_7 : decode cX9_signal 7 = .ok (.aload_n 0, 1) := by decide +kernel
theorem dX9_signal_8 : decode cX9_signal 8 = .ok (.dup, 1) := by decide +kernel
theorem dX9_signal_9 : decode cX9_signal 9 = .ok (.getfield 35, 3) := by decide +kernel
theorem dX9_signal_12 : decode cX9_signal 12 = .ok (.iconst 1, 1) := by decide +kernel
theorem dX9_signal_13 : decode cX9_signal 13 = .ok (.aload_n 1, 1) := by decide +kernel
theorem dX9_signal_14 : decode cX9_signal 14 = .ok (.getfield 161, 3) := by decide +kernel
theorem dX9_signal_17 : decode cX9_signal 17 = .ok (.ishl, 1) := by decide +kernel
theorem dX9_signal_18 : decode cX9_signal 18 = .ok (.ior, 1) := by decide +kernel
theorem dX9_signal_19 : decode cX9_signal 19 = .ok (.putfield 35, 3) := by decide +kernel
theorem dX9_signal_22 : decode cX9_signal 22 = .ok (.iconst 5, 1) := by decide +kernel
theorem dX9_signal_23 : decode cX9_signal 23 = .ok (.ireturn, 1) := by decide +kernel
theorem dX9_signal_24 : decode cX9_signal 24 = .ok (.aload_n 0, 1) := by decide +kernel
theorem dX9_signal_25 : decode cX9_signal 25 = .ok (.getfield 34, 3) := by decide +kernel
theorem dX9_signal_28 : decode cX9_signal 28 = .ok (.aload_n 1, 1) := by decide +kernel
theorem dX9_signal_29 : decode cX9_signal 29 = .ok (.getfield 161, 3) := by decide +kernel
theorem dX9_signal_32 : decode cX9_signal 32 = .ok (.ishr, 1) := by decide +kernel
theorem dX9_signal_33 : decode cX9_signal 33 = .ok (.iconst 1, 1) := by decide +kernel
theorem dX9_signal_34 : decode cX9_signal 34 = .ok (.iand, 1) := by decide +kernel
theorem dX9_signal_35 : decode cX9_signal 35 = .ok (.ifCond .ne 7, 3) := by decide +kernel
theorem dX9_signal_38 : decode cX9_signal 38 = .ok (.iconst 0, 1) := by decide +kernel
theorem dX9_signal_39 : decode cX9_signal 39 = .ok (.goto 4, 3) := by decide +kernel
theorem dX9_signal_42 : decode cX9_signal 42 = .ok (.iconst 5, 1) := by decide +kernel
theorem dX9_signal_43 : decode cX9_signal 43 = .ok (.ireturn, 1) := by decide +kernel
theorem dX9_set_0 : decode cX9_set 0 = .ok (.aload_n 1, 1) := by decide +kernel
theorem dX9_set_1 : decode cX9_set 1 = .ok (.getfield 161, 3) := by decide +kernel
theorem dX9_set_4 : decode cX9_set 4 = .ok (.aload_n 3, 1) := by decide +kernel
theorem dX9_set_5 : decode cX9_set 5 = .ok (.getfield 295, 3) := by decide +kernel
theorem dX9_set_8 : decode cX9_set 8 = .ok (.invokestatic 131, 3) := by decide +kernel
theorem dX9_set_11 : decode cX9_set 11 = .ok (.istore 4, 2) := by decide +kernel
theorem dX9_set_13 : decode cX9_set 13 = .ok (.aload_n 1, 1) := by decide +kernel
theorem dX9_set_14 : decode cX9_set 14 = .ok (.getfield 154, 3) := by decide +kernel
theorem dX9_set_17 : decode cX9_set 17 = .ok (.getstatic 298, 3) := by decide +kernel
theorem dX9_set_20 : decode cX9_set 20 = .ok (.if_acmp .ne 19, 3) := by decide +kernel
theorem dX9_set_23 : decode cX9_set 23 = .ok (.aload_n 0, 1) := by decide +kernel
theorem dX9_set_24 : decode cX9_set 24 = .ok (.getfield 15, 3) := by decide +kernel
theorem dX9_set_27 : decode cX9_set 27 = .ok (.aload_n 3, 1) := by decide +kernel
theorem dX9_set_28 : decode cX9_set 28 = .ok (.getfield 301, 3) := by decide +kernel
theorem dX9_set_31 : decode cX9_set 31 = .ok (.iload 4, 2) := by decide +kernel
theorem dX9_set_33 : decode cX9_set 33 = .ok (.invokevirtual 135, 3) := by decide +kernel
theorem dX9_set_36 : decode cX9_set 36 = .ok (.goto 43, 3) := by decide +kernel
theorem dX9_set_39 : decode cX9_set 39 = .ok (.aload_n 1, 1) := by decide +kernel
theorem dX9_set_40 : decode cX9_set 40 = .ok (.getfield 154, 3) := by decide +kernel
theorem dX9_set_43 : decode cX9_set 43 = .ok (.getstatic 304, 3) := by decide +kernel
theorem dX9_set_46 : decode cX9_set 46 = .ok (.if_acmp .ne 19, 3) := by decide +kernel
theorem dX9_set_49 : decode cX9_set 49 = .ok (.aload_n 0, 1) := by decide +kernel
theorem dX9_set_50 : decode cX9_set 50 = .ok (.getfield 15, 3) := by decide +kernel
theorem dX9_set_53 : decode cX9_set 53 = .ok (.aload_n 3, 1) := by decide +kernel
theorem dX9_set_54 : decode cX9_set 54 = .ok (.getfield 301, 3) := by decide +kernel
theorem dX9_set_57 : decode cX9_set 57 = .ok (.iload 4, 2) := by decide +kernel
theorem dX9_set_59 : decode cX9_set 59 = .ok (.invokevirtual 307, 3) := by decide +kernel
theorem dX9_set_62 : decode cX9_set 62 = .ok (.goto 17, 3) := by decide +kernel
theorem dX9_set_65 : decode cX9_set 65 = .ok (.aload_n 0, 1) := by decide +kernel
theorem dX9_set_66 : decode cX9_set 66 = .ok (.aload_n 1, 1) := by decide +kernel
theorem dX9_set_67 : decode cX9_set 67 = .ok (.getfield 154, 3) := by decide +kernel
theorem dX9_set_70 : decode cX9_set 70 = .ok (.aload_n 1, 1) := by decide +kernel
theorem dX9_set_71 : decode cX9_set 71 = .ok (.getfield 161, 3) := by decide +kernel
theorem dX9_set_74 : decode cX9_set 74 = .ok (.aload_n 2, 1) := by decide +kernel
theorem dX9_set_75 : decode cX9_set 75 = .ok (.aload_n 3, 1) := by decide +kernel
theorem dX9_set_76 : decode cX9_set 76 = .ok (.invokevirtual 183, 3) := by decide +kernel
theorem dX9_set_79 : decode cX9_set 79 = .ok (.return_, 1) := by decide +kernel
theorem dX9_access_0 : decode cX9_access 0 = .ok (.iload_n 3, 1) := by decide +kernel
theorem dX9_access_1 : decode cX9_access 1 = .ok (.ifCond .ne 5, 3) := by decide +kernel
theorem dX9_access_4 : decode cX9_access 4 = .ok (.iconst 4, 1) := by decide +kernel
theorem dX9_access_5 : decode cX9_access 5 = .ok (.ireturn, 1) := by decide +kernel
theorem dX9_access_6 : decode cX9_access 6 = .ok (.aload_n 1, 1) := by decide +kernel
theorem dX9_access_7 : decode cX9_access 7 = .ok (.aload_n 2, 1) := by decide +kernel
theorem dX9_access_8 : decode cX9_access 8 = .ok (.invokestatic 310, 3) := by decide +kernel
theorem dX9_access_11 : decode cX9_access 11 = .ok (.istore 4, 2) := by decide +kernel
theorem dX9_access_13 : decode cX9_access 13 = .ok (.aload_n 1, 1) := by decide +kernel
theorem dX9_access_14 : decode cX9_access 14 = .ok (.getfield 145, 3) := by decide +kernel
theorem dX9_access_17 : decode cX9_access 17 = .ok (.getstatic 313, 3) := by decide +kernel
theorem dX9_access_20 : decode cX9_access 20 = .ok (.if_acmp .ne 24, 3) := by decide +kernel
theorem dX9_access_23 : decode cX9_access 23 = .ok (.aload_n 0, 1) := by decide +kernel
theorem dX9_access_24 : decode cX9_access 24 = .ok (.getfield 15, 3) := by decide +kernel
theorem dX9_access_27 : decode cX9_access 27 = .ok (.getfield 316, 3) := by decide +kernel
theorem dX9_access_30 : decode cX9_access 30 = .ok (.iload 4, 2) := by decide +kernel
theorem dX9_access_32 : decode cX9_access 32 = .ok (.aload_n 1, 1) := by decide +kernel
theorem dX9_access_33 : decode cX9_access 33 = .ok (.getfield 154, 3) := by decide +kernel
theorem dX9_access_36 : decode cX9_access 36 = .ok (.aload_n 2, 1) := by decide +kernel
theorem dX9_access_37 : decode cX9_access 37 = .ok (.invokestatic 319, 3) := by decide +kernel
theorem dX9_access_40 : decode cX9_access 40 = .ok (.iastore, 1) := by decide +kernel
theorem dX9_access_41 : decode cX9_access 41 = .ok (.goto 71, 3) := by decide +kernel
theorem dX9_access_44 : decode cX9_access 44 = .ok (.aload_n 1, 1) := by decide +kernel
theorem dX9_access_45 : decode cX9_access 45 = .ok (.getfield 154, 3) := by decide +kernel
theorem dX9_access_48 : decode cX9_access 48 = .ok (.getstatic 323, 3) := by decide +kernel
theorem dX9_access_51 : decode cX9_access 51 = .ok (.if_acmp .ne 20, 3) := by decide +kernel
theorem dX9_access_54 : decode cX9_access 54 = .ok (.aload_n 2, 1) := by decide +kernel
theorem dX9_access_55 : decode cX9_access 55 = .ok (.aload_n 0, 1) := by decide +kernel
theorem dX9_access_56 : decode cX9_access 56 = .ok (.getfield 15, 3) := by decide +kernel
theorem dX9_access_59 : decode cX9_access 59 = .ok (.getfield 316, 3) := by decide +kernel
theorem dX9_access_62 : decode cX9_access 62 = .ok (.iload 4, 2) := by decide +kernel
theorem dX9_access_64 : decode cX9_access 64 = .ok (.iaload, 1) := by decide +kernel
theorem dX9_access_65 : decode cX9_access 65 = .ok (.putfield 195, 3) := by decide +kernel
theorem dX9_access_68 : decode cX9_access 68 = .ok (.goto 44, 3) := by decide +kernel
theorem dX9_access_71 : decode cX9_access 71 = .ok (.aload_n 1, 1) := by decide +kernel
theorem dX9_access_72 : decode cX9_access 72 = .ok (.getfield 154, 3) := by decide +kernel
theorem dX9_access_75 : decode cX9_access 75 = .ok (.getstatic 326, 3) := by decide +kernel
theorem dX9_access_78 : decode cX9_access 78 = .ok (.if_acmp .ne 20, 3) := by decide +kernel
theorem dX9_access_81 : decode cX9_access 81 = .ok (.aload_n 2, 1) := by decide +kernel
theorem dX9_access_82 : decode cX9_access 82 = .ok (.aload_n 0, 1) := by decide +kernel
theorem dX9_access_83 : decode cX9_access 83 = .ok (.getfield 15, 3) := by decide +kernel
theorem dX9_access_86 : decode cX9_access 86 = .ok (.getfield 316, 3) := by decide +kernel
theorem dX9_access_89 : decode cX9_access 89 = .ok (.iload 4, 2) := by decide +kernel
theorem dX9_access_91 : decode cX9_access 91 = .ok (.iaload, 1) := by decide +kernel
theorem dX9_access_92 : decode cX9_access 92 = .ok (.putfield 198, 3) := by decide +kernel
theorem dX9_access_95 : decode cX9_access 95 = .ok (.goto 17, 3) := by decide +kernel
theorem dX9_access_98 : decode cX9_access 98 = .ok (.aload_n 2, 1) := by decide +kernel
theorem dX9_access_99 : decode cX9_access 99 = .ok (.aload_n 0, 1) := by decide +kernel
theorem dX9_access_100 : decode cX9_access 100 = .ok (.getfield 15, 3) := by decide +kernel
theorem dX9_access_103 : decode cX9_access 103 = .ok (.getfield 316, 3) := by decide +kernel
theorem dX9_access_106 : decode cX9_access 106 = .ok (.iload 4, 2) := by decide +kernel
theorem dX9_access_108 : decode cX9_access 108 = .ok (.iaload, 1) := by decide +kernel
theorem dX9_access_109 : decode cX9_access 109 = .ok (.invokevirtual 291, 3) := by decide +kernel
theorem dX9_access_112 : decode cX9_access 112 = .ok (.iconst 0, 1) := by decide +kernel
theorem dX9_access_113 : decode cX9_access 113 = .ok (.ireturn, 1) := by decide +kernel
theorem dX9_placeOf_0 : decode cX9_placeOf 0 = .ok (.aload_n 0, 1) := by decide +kernel
theorem dX9_placeOf_1 : decode cX9_placeOf 1 = .ok (.getfield 282, 3) := by decide +kernel
