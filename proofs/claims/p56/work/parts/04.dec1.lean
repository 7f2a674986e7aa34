-- printed rows: each instruction of each method
theorem dX1_init_0 : decode cX1_init 0 = .ok (.aload_n 0, 1) := by decide +kernel
theorem dX1_init_1 : decode cX1_init 1 = .ok (.invokespecial 3, 3) := by decide +kernel
theorem dX1_init_4 : decode cX1_init 4 = .ok (.aload_n 0, 1) := by decide +kernel
theorem dX1_init_5 : decode cX1_init 5 = .ok (.iconst 0, 1) := by decide +kernel
theorem dX1_init_6 : decode cX1_init 6 = .ok (.putfield 9, 3) := by decide +kernel
theorem dX1_init_9 : decode cX1_init 9 = .ok (.aload_n 0, 1) := by decide +kernel
theorem dX1_init_10 : decode cX1_init 10 = .ok (.iconst 0, 1) := by decide +kernel
theorem dX1_init_11 : decode cX1_init 11 = .ok (.putfield 15, 3) := by decide +kernel
theorem dX1_init_14 : decode cX1_init 14 = .ok (.aload_n 0, 1) := by decide +kernel
theorem dX1_init_15 : decode cX1_init 15 = .ok (.bipush 20, 2) := by decide +kernel
theorem dX1_init_17 : decode cX1_init 17 = .ok (.putfield 18, 3) := by decide +kernel
theorem dX1_init_20 : decode cX1_init 20 = .ok (.aload_n 0, 1) := by decide +kernel
theorem dX1_init_21 : decode cX1_init 21 = .ok (.iconst 0, 1) := by decide +kernel
theorem dX1_init_22 : decode cX1_init 22 = .ok (.putfield 21, 3) := by decide +kernel
theorem dX1_init_25 : decode cX1_init 25 = .ok (.aload_n 0, 1) := by decide +kernel
theorem dX1_init_26 : decode cX1_init 26 = .ok (.iconst 0, 1) := by decide +kernel
theorem dX1_init_27 : decode cX1_init 27 = .ok (.putfield 24, 3) := by decide +kernel
theorem dX1_init_30 : decode cX1_init 30 = .ok (.aload_n 0, 1) := by decide +kernel
theorem dX1_init_31 : decode cX1_init 31 = .ok (.iconst 0, 1) := by decide +kernel
theorem dX1_init_32 : decode cX1_init 32 = .ok (.putfield 27, 3) := by decide +kernel
theorem dX1_init_35 : decode cX1_init 35 = .ok (.aload_n 0, 1) := by decide +kernel
theorem dX1_init_36 : decode cX1_init 36 = .ok (.iconst 0, 1) := by decide +kernel
theorem dX1_init_37 : decode cX1_init 37 = .ok (.putfield 30, 3) := by decide +kernel
theorem dX1_init_40 : decode cX1_init 40 = .ok (.aload_n 0, 1) := by decide +kernel
theorem dX1_init_41 : decode cX1_init 41 = .ok (.iconst 0, 1) := by decide +kernel
theorem dX1_init_42 : decode cX1_init 42 = .ok (.putfield 33, 3) := by decide +kernel
theorem dX1_init_45 : decode cX1_init 45 = .ok (.return_, 1) := by decide +kernel
theorem dX1_copyFrom_0 : decode cX1_copyFrom 0 = .ok (.aload_n 0, 1) := by decide +kernel
theorem dX1_copyFrom_1 : decode cX1_copyFrom 1 = .ok (.aload_n 1, 1) := by decide +kernel
theorem dX1_copyFrom_2 : decode cX1_copyFrom 2 = .ok (.getfield 9, 3) := by decide +kernel
theorem dX1_copyFrom_5 : decode cX1_copyFrom 5 = .ok (.putfield 9, 3) := by decide +kernel
theorem dX1_copyFrom_8 : decode cX1_copyFrom 8 = .ok (.aload_n 0, 1) := by decide +kernel
theorem dX1_copyFrom_9 : decode cX1_copyFrom 9 = .ok (.aload_n 1, 1) := by decide +kernel
theorem dX1_copyFrom_10 : decode cX1_copyFrom 10 = .ok (.getfield 15, 3) := by decide +kernel
theorem dX1_copyFrom_13 : decode cX1_copyFrom 13 = .ok (.putfield 15, 3) := by decide +kernel
theorem dX1_copyFrom_16 : decode cX1_copyFrom 16 = .ok (.aload_n 0, 1) := by decide +kernel
theorem dX1_copyFrom_17 : decode cX1_copyFrom 17 = .ok (.aload_n 1, 1) := by decide +kernel
theorem dX1_copyFrom_18 : decode cX1_copyFrom 18 = .ok (.getfield 18, 3) := by decide +kernel
theorem dX1_copyFrom_21 : decode cX1_copyFrom 21 = .ok (.putfield 18, 3) := by decide +kernel
theorem dX1_copyFrom_24 : decode cX1_copyFrom 24 = .ok (.aload_n 0, 1) := by decide +kernel
theorem dX1_copyFrom_25 : decode cX1_copyFrom 25 = .ok (.aload_n 1, 1) := by decide +kernel
theorem dX1_copyFrom_26 : decode cX1_copyFrom 26 = .ok (.getfield 21, 3) := by decide +kernel
theorem dX1_copyFrom_29 : decode cX1_copyFrom 29 = .ok (.putfield 21, 3) := by decide +kernel
theorem dX1_copyFrom_32 : decode cX1_copyFrom 32 = .ok (.aload_n 0, 1) := by decide +kernel
theorem dX1_copyFrom_33 : decode cX1_copyFrom 33 = .ok (.aload_n 1, 1) := by decide +kernel
theorem dX1_copyFrom_34 : decode cX1_copyFrom 34 = .ok (.getfield 24, 3) := by decide +kernel
theorem dX1_copyFrom_37 : decode cX1_copyFrom 37 = .ok (.putfield 24, 3) := by decide +kernel
theorem dX1_copyFrom_40 : decode cX1_copyFrom 40 = .ok (.aload_n 0, 1) := by decide +kernel
theorem dX1_copyFrom_41 : decode cX1_copyFrom 41 = .ok (.aload_n 1, 1) := by decide +kernel
theorem dX1_copyFrom_42 : decode cX1_copyFrom 42 = .ok (.getfield 27, 3) := by decide +kernel
theorem dX1_copyFrom_45 : decode cX1_copyFrom 45 = .ok (.putfield 27, 3) := by decide +kernel
theorem dX1_copyFrom_48 : decode cX1_copyFrom 48 = .ok (.aload_n 0, 1) := by decide +kernel
theorem dX1_copyFrom_49 : decode cX1_copyFrom 49 = .ok (.aload_n 1, 1) := by decide +kernel
theorem dX1_copyFrom_50 : decode cX1_copyFrom 50 = .ok (.getfield 30, 3) := by decide +kernel
theorem dX1_copyFrom_53 : decode cX1_copyFrom 53 = .ok (.putfield 30, 3) := by decide +kernel
theorem dX1_copyFrom_56 : decode cX1_copyFrom 56 = .ok (.aload_n 0, 1) := by decide +kernel
theorem dX1_copyFrom_57 : decode cX1_copyFrom 57 = .ok (.aload_n 1, 1) := by decide +kernel
theorem dX1_copyFrom_58 : decode cX1_copyFrom 58 = .ok (.getfield 33, 3) := by decide +kernel
theorem dX1_copyFrom_61 : decode cX1_copyFrom 61 = .ok (.putfield 33, 3) := by decide +kernel
theorem dX1_copyFrom_64 : decode cX1_copyFrom 64 = .ok (.return_, 1) := by decide +kernel
theorem dX1_balance_0 : decode cX1_balance 0 = .ok (.aload_n 0, 1) := by decide +kernel
theorem dX1_balance_1 : decode cX1_balance 1 = .ok (.getfield 21, 3) := by decide +kernel
theorem dX1_balance_4 : decode cX1_balance 4 = .ok (.aload_n 0, 1) := by decide +kernel
theorem dX1_balance_5 : decode cX1_balance 5 = .ok (.getfield 24, 3) := by decide +kernel
theorem dX1_balance_8 : decode cX1_balance 8 = .ok (.iadd, 1) := by decide +kernel
theorem dX1_balance_9 : decode cX1_balance 9 = .ok (.aload_n 0, 1) := by decide +kernel
theorem dX1_balance_10 : decode cX1_balance 10 = .ok (.getfield 27, 3) := by decide +kernel
theorem dX1_balance_13 : decode cX1_balance 13 = .ok (.isub, 1) := by decide +kernel
theorem dX1_balance_14 : decode cX1_balance 14 = .ok (.aload_n 0, 1) := by decide +kernel
theorem dX1_balance_15 : decode cX1_balance 15 = .ok (.getfield 30, 3) := by decide +kernel
theorem dX1_balance_18 : decode cX1_balance 18 = .ok (.isub, 1) := by decide +kernel
theorem dX1_balance_19 : decode cX1_balance 19 = .ok (.aload_n 0, 1) := by decide +kernel
theorem dX1_balance_20 : decode cX1_balance 20 = .ok (.getfield 33, 3) := by decide +kernel
theorem dX1_balance_23 : decode cX1_balance 23 = .ok (.isub, 1) := by decide +kernel
theorem dX1_balance_24 : decode cX1_balance 24 = .ok (.ireturn, 1) := by decide +kernel
theorem dX2_init_0 : decode cX2_init 0 = .ok (.aload_n 0, 1) := by decide +kernel
theorem dX2_init_1 : decode cX2_init 1 = .ok (.invokespecial 3, 3) := by decide +kernel
theorem dX2_init_4 : decode cX2_init 4 = .ok (.aload_n 0, 1) := by decide +kernel
theorem dX2_init_5 : decode cX2_init 5 = .ok (.bipush 60, 2) := by decide +kernel
theorem dX2_init_7 : decode cX2_init 7 = .ok (.newarray .char, 2) := by decide +kernel
theorem dX2_init_9 : decode cX2_init 9 = .ok (.putfield 9, 3) := by decide +kernel
theorem dX2_init_12 : decode cX2_init 12 = .ok (.aload_n 0, 1) := by decide +kernel
theorem dX2_init_13 : decode cX2_init 13 = .ok (.iconst 5, 1) := by decide +kernel
theorem dX2_init_14 : decode cX2_init 14 = .ok (.newarray .int, 2) := by decide +kernel
theorem dX2_init_16 : decode cX2_init 16 = .ok (.putfield 15, 3) := by decide +kernel
theorem dX2_init_19 : decode cX2_init 19 = .ok (.aload_n 0, 1) := by decide +kernel
theorem dX2_init_20 : decode cX2_init 20 = .ok (.iconst 0, 1) := by decide +kernel
theorem dX2_init_21 : decode cX2_init 21 = .ok (.putfield 19, 3) := by decide +kernel
theorem dX2_init_24 : decode cX2_init 24 = .ok (.aload_n 0, 1) := by decide +kernel
theorem dX2_init_25 : decode cX2_init 25 = .ok (.iconst 0, 1) := by decide +kernel
theorem dX2_init_26 : decode cX2_init 26 = .ok (.putfield 23, 3) := by decide +kernel
theorem dX2_init_29 : decode cX2_init 29 = .ok (.aload_n 0, 1) := by decide +kernel
theorem dX2_init_30 : decode cX2_init 30 = .ok (.iconst 0, 1) := by decide +kernel
theorem dX2_init_31 : decode cX2_init 31 = .ok (.putfield 26, 3) := by decide +kernel
theorem dX2_init_34 : decode cX2_init 34 = .ok (.aload_n 0, 1) := by decide +kernel
theorem dX2_init_35 : decode cX2_init 35 = .ok (.iconst 0, 1) := by decide +kernel
theorem dX2_init_36 : decode cX2_init 36 = .ok (.putfield 29, 3) := by decide +kernel
theorem dX2_init_39 : decode cX2_init 39 = .ok (.aload_n 0, 1) := by decide +kernel
theorem dX2_init_40 : decode cX2_init 40 = .ok (.getstatic 32, 3) := by decide +kernel
theorem dX2_init_43 : decode cX2_init 43 = .ok (.putfield 38, 3) := by decide +kernel
theorem dX2_init_46 : decode cX2_init 46 = .ok (.return_, 1) := by decide +kernel
theorem dX2_isFull_0 : decode cX2_isFull 0 = .ok (.aload_n 0, 1) := by decide +kernel
theorem dX2_isFull_1 : decode cX2_isFull 1 = .ok (.getfield 19, 3) := by decide +kernel
theorem dX2_isFull_4 : decode cX2_isFull 4 = .ok (.aload_n 0, 1) := by decide +kernel
theorem dX2_isFull_5 : decode cX2_isFull 5 = .ok (.getfield 9, 3) := by decide +kernel
theorem dX2_isFull_8 : decode cX2_isFull 8 = .ok (.arraylength, 1) := by decide +kernel
theorem dX2_isFull_9 : decode cX2_isFull 9 = .ok (.if_icmp .lt 7, 3) := by decide +kernel
theorem dX2_isFull_12 : decode cX2_isFull 12 = .ok (.iconst 1, 1) := by decide +kernel
theorem dX2_isFull_13 : decode cX2_isFull 13 = .ok (.goto 4, 3) := by decide +kernel
theorem dX2_isFull_16 : decode cX2_isFull 16 = .ok (.iconst 0, 1) := by decide +kernel
theorem dX2_isFull_17 : decode cX2_isFull 17 = .ok (.ireturn, 1) := by decide +kernel
theorem dX2_add_0 : decode cX2_add 0 = .ok (.aload_n 0, 1) := by decide +kernel
theorem dX2_add_1 : decode cX2_add 1 = .ok (.getfield 19, 3) := by decide +kernel
theorem dX2_add_4 : decode cX2_add 4 = .ok (.ifCond .lt 35, 3) := by decide +kernel
theorem dX2_add_7 : decode cX2_add 7 = .ok (.aload_n 0, 1) := by decide +kernel
theorem dX2_add_8 : decode cX2_add 8 = .ok (.getfield 19, 3) := by decide +kernel
theorem dX2_add_11 : decode cX2_add 11 = .ok (.aload_n 0, 1) := by decide +kernel
theorem dX2_add_12 : decode cX2_add 12 = .ok (.getfield 9, 3) := by decide +kernel
theorem dX2_add_15 : decode cX2_add 15 = .ok (.arraylength, 1) := by decide +kernel
theorem dX2_add_16 : decode cX2_add 16 = .ok (.if_icmp .ge 23, 3) := by decide +kernel
theorem dX2_add_19 : decode cX2_add 19 = .ok (.aload_n 0, 1) := by decide +kernel
theorem dX2_add_20 : decode cX2_add 20 = .ok (.getfield 9, 3) := by decide +kernel
theorem dX2_add_23 : decode cX2_add 23 = .ok (.aload_n 0, 1) := by decide +kernel
theorem dX2_add_24 : decode cX2_add 24 = .ok (.getfield 19, 3) := by decide +kernel
theorem dX2_add_27 : decode cX2_add 27 = .ok (.iload_n 1, 1) := by decide +kernel
theorem dX2_add_28 : decode cX2_add 28 = .ok (.castore, 1) := by decide +kernel
theorem dX2_add_29 : decode cX2_add 29 = .ok (.aload_n 0, 1) := by decide +kernel
theorem dX2_add_30 : decode cX2_add 30 = .ok (.dup, 1) := by decide +kernel
theorem dX2_add_31 : decode cX2_add 31 = .ok (.getfield 19, 3) := by decide +kernel
theorem dX2_add_34 : decode cX2_add 34 = .ok (.iconst 1, 1) := by decide +kernel
theorem dX2_add_35 : decode cX2_add 35 = .ok (.iadd, 1) := by decide +kernel
theorem dX2_add_36 : decode cX2_add 36 = .ok (.putfield 19, 3) := by decide +kernel
theorem dX2_add_39 : decode cX2_add 39 = .ok (.aload_n 0, 1) := by decide +kernel
theorem dX2_add_40 : decode cX2_add 40 = .ok (.getfield 19, 3) := by decide +kernel
theorem dX2_add_43 : decode cX2_add 43 = .ok (.ireturn, 1) := by decide +kernel
theorem dX2_clear_0 : decode cX2_clear 0 = .ok (.aload_n 0, 1) := by decide +kernel
theorem dX2_clear_1 : decode cX2_clear 1 = .ok (.iconst 0, 1) := by decide +kernel
theorem dX2_clear_2 : decode cX2_clear 2 = .ok (.putfield 19, 3) := by decide +kernel
theorem dX2_clear_5 : decode cX2_clear 5 = .ok (.return_, 1) := by decide +kernel
theorem dX2_rewind_0 : decode cX2_rewind 0 = .ok (.aload_n 0, 1) := by decide +kernel
theorem dX2_rewind_1 : decode cX2_rewind 1 = .ok (.iconst 0, 1) := by decide +kernel
theorem dX2_rewind_2 : decode cX2_rewind 2 = .ok (.putfield 23, 3) := by decide +kernel
theorem dX2_rewind_5 : decode cX2_rewind 5 = .ok (.return_, 1) := by decide +kernel
theorem dX2_countCommands_0 : decode cX2_countCommands 0 = .ok (.aload_n 0, 1) := by decide +kernel
theorem dX2_countCommands_1 : decode cX2_countCommands 1 = .ok (.invokevirtual 41, 3) := by decide +kernel
theorem dX2_countCommands_4 : decode cX2_countCommands 4 = .ok (.iconst 1, 1) := by decide +kernel
theorem dX2_countCommands_5 : decode cX2_countCommands 5 = .ok (.istore_n 1, 1) := by decide +kernel
theorem dX2_countCommands_6 : decode cX2_countCommands 6 = .ok (.iload_n 1, 1) := by decide +kernel
theorem dX2_countCommands_7 : decode cX2_countCommands 7 = .ok (.bipush 60, 2) := by decide +kernel
theorem dX2_countCommands_9 : decode cX2_countCommands 9 = .ok (.if_icmp .gt 40, 3) := by decide +kernel
theorem dX2_countCommands_12 : decode cX2_countCommands 12 = .ok (.aload_n 0, 1) := by decide +kernel
theorem dX2_countCommands_13 : decode cX2_countCommands 13 = .ok (.invokevirtual 44, 3) := by decide +kernel
theorem dX2_countCommands_16 : decode cX2_countCommands 16 = .ok (.ifCond .ne 5, 3) := by decide +kernel
theorem dX2_countCommands_19 : decode cX2_countCommands 19 = .ok (.iconst (-1), 1) := by decide +kernel
theorem dX2_countCommands_20 : decode cX2_countCommands 20 = .ok (.ireturn, 1) := by decide +kernel
theorem dX2_countCommands_21 : decode cX2_countCommands 21 = .ok (.aload_n 0, 1) := by decide +kernel
theorem dX2_countCommands_22 : decode cX2_countCommands 22 = .ok (.getfield 23, 3) := by decide +kernel
theorem dX2_countCommands_25 : decode cX2_countCommands 25 = .ok (.aload_n 0, 1) := by decide +kernel
theorem dX2_countCommands_26 : decode cX2_countCommands 26 = .ok (.getfield 19, 3) := by decide +kernel
theorem dX2_countCommands_29 : decode cX2_countCommands 29 = .ok (.if_icmp .ne 5, 3) := by decide +kernel
theorem dX2_countCommands_32 : decode cX2_countCommands 32 = .ok (.iload_n 1, 1) := by decide +kernel
theorem dX2_countCommands_33 : decode cX2_countCommands 33 = .ok (.ireturn, 1) := by decide +kernel
theorem dX2_countCommands_34 : decode cX2_countCommands 34 = .ok (.aload_n 0, 1) := by decide +kernel
theorem dX2_countCommands_35 : decode cX2_countCommands 35 = .ok (.invokevirtual 48, 3) := by decide +kernel
theorem dX2_countCommands_38 : decode cX2_countCommands 38 = .ok (.ifCond .ne 5, 3) := by decide +kernel
theorem dX2_countCommands_41 : decode cX2_countCommands 41 = .ok (.iconst (-1), 1) := by decide +kernel
theorem dX2_countCommands_42 : decode cX2_countCommands 42 = .ok (.ireturn, 1) := by decide +kernel
theorem dX2_countCommands_43 : decode cX2_countCommands 43 = .ok (.iinc 1 1, 3) := by decide +kernel
theorem dX2_countCommands_46 : decode cX2_countCommands 46 = .ok (.goto (-40), 3) := by decide +kernel
theorem dX2_countCommands_49 : decode cX2_countCommands 49 = .ok (.iconst (-1), 1) := by decide +kernel
theorem dX2_countCommands_50 : decode cX2_countCommands 50 = .ok (.ireturn, 1) := by decide +kernel
theorem dX2_skipSeparator_0 : decode cX2_skipSeparator 0 = .ok (.aload_n 0, 1) := by decide +kernel
theorem dX2_skipSeparator_1 : decode cX2_skipSeparator 1 = .ok (.aload_n 0, 1) := by decide +kernel
theorem dX2_skipSeparator_2 : decode cX2_skipSeparator 2 = .ok (.getfield 23, 3) := by decide +kernel
theorem dX2_skipSeparator_5 : decode cX2_skipSeparator 5 = .ok (.bipush 59, 2) := by decide +kernel
theorem dX2_skipSeparator_7 : decode cX2_skipSeparator 7 = .ok (.invokevirtual 51, 3) := by decide +kernel
theorem dX2_skipSeparator_10 : decode cX2_skipSeparator 10 = .ok (.ifCond .ne 5, 3) := by decide +kernel
theorem dX2_skipSeparator_13 : decode cX2_skipSeparator 13 = .ok (.iconst 0, 1) := by decide +kernel
theorem dX2_skipSeparator_14 : decode cX2_skipSeparator 14 = .ok (.ireturn, 1) := by decide +kernel
theorem dX2_skipSeparator_15 : decode cX2_skipSeparator 15 = .ok (.aload_n 0, 1) := by decide +kernel
theorem dX2_skipSeparator_16 : decode cX2_skipSeparator 16 = .ok (.dup, 1) := by decide +kernel
theorem dX2_skipSeparator_17 : decode cX2_skipSeparator 17 = .ok (.getfield 23, 3) := by decide +kernel
theorem dX2_skipSeparator_20 : decode cX2_skipSeparator 20 = .ok (.iconst 1, 1) := by decide +kernel
theorem dX2_skipSeparator_21 : decode cX2_skipSeparator 21 = .ok (.iadd, 1) := by decide +kernel
theorem dX2_skipSeparator_22 : decode cX2_skipSeparator 22 = .ok (.putfield 23, 3) := by decide +kernel
theorem dX2_skipSeparator_25 : decode cX2_skipSeparator 25 = .ok (.iconst 1, 1) := by decide +kernel
theorem dX2_skipSeparator_26 : decode cX2_skipSeparator 26 = .ok (.ireturn, 1) := by decide +kernel
theorem dX2_readCommand_0 : decode cX2_readCommand 0 = .ok (.aload_n 0, 1) := by decide +kernel
theorem dX2_readCommand_1 : decode cX2_readCommand 1 = .ok (.getfield 23, 3) := by decide +kernel
theorem dX2_readCommand_4 : decode cX2_readCommand 4 = .ok (.istore_n 1, 1) := by decide +kernel
theorem dX2_readCommand_5 : decode cX2_readCommand 5 = .ok (.getstatic 55, 3) := by decide +kernel
theorem dX2_readCommand_8 : decode cX2_readCommand 8 = .ok (.astore_n 2, 1) := by decide +kernel
theorem dX2_readCommand_9 : decode cX2_readCommand 9 = .ok (.aload_n 2, 1) := by decide +kernel
theorem dX2_readCommand_10 : decode cX2_readCommand 10 = .ok (.arraylength, 1) := by decide +kernel
theorem dX2_readCommand_11 : decode cX2_readCommand 11 = .ok (.istore_n 3, 1) := by decide +kernel
theorem dX2_readCommand_12 : decode cX2_readCommand 12 = .ok (.iconst 0, 1) := by decide +kernel
theorem dX2_readCommand_13 : decode cX2_readCommand 13 = .ok (.istore 4, 2) := by decide +kernel
theorem dX2_readCommand_15 : decode cX2_readCommand 15 = .ok (.iload 4, 2) := by decide +kernel
theorem dX2_readCommand_17 : decode cX2_readCommand 17 = .ok (.iload_n 3, 1) := by decide +kernel
theorem dX2_readCommand_18 : decode cX2_readCommand 18 = .ok (.if_icmp .ge 52, 3) := by decide +kernel
theorem dX2_readCommand_21 : decode cX2_readCommand 21 = .ok (.aload_n 2, 1) := by decide +kernel
theorem dX2_readCommand_22 : decode cX2_readCommand 22 = .ok (.iload 4, 2) := by decide +kernel
theorem dX2_readCommand_24 : decode cX2_readCommand 24 = .ok (.aaload, 1) := by decide +kernel
theorem dX2_readCommand_25 : decode cX2_readCommand 25 = .ok (.astore 5, 2) := by decide +kernel
theorem dX2_readCommand_27 : decode cX2_readCommand 27 = .ok (.aload_n 0, 1) := by decide +kernel
theorem dX2_readCommand_28 : decode cX2_readCommand 28 = .ok (.aload 5, 2) := by decide +kernel
theorem dX2_readCommand_30 : decode cX2_readCommand 30 = .ok (.getfield 59, 3) := by decide +kernel
theorem dX2_readCommand_33 : decode cX2_readCommand 33 = .ok (.invokevirtual 63, 3) := by decide +kernel
theorem dX2_readCommand_36 : decode cX2_readCommand 36 = .ok (.ifCond .eq 19, 3) := by decide +kernel
theorem dX2_readCommand_39 : decode cX2_readCommand 39 = .ok (.aload_n 0, 1) := by decide +kernel
theorem dX2_readCommand_40 : decode cX2_readCommand 40 = .ok (.aload 5, 2) := by decide +kernel
theorem dX2_readCommand_42 : decode cX2_readCommand 42 = .ok (.putfield 38, 3) := by decide +kernel
theorem dX2_readCommand_45 : decode cX2_readCommand 45 = .ok (.aload_n 0, 1) := by decide +kernel
theorem dX2_readCommand_46 : decode cX2_readCommand 46 = .ok (.aload_n 0, 1) := by decide +kernel
theorem dX2_readCommand_47 : decode cX2_readCommand 47 = .ok (.getfield 26, 3) := by decide +kernel
theorem dX2_readCommand_50 : decode cX2_readCommand 50 = .ok (.putfield 23, 3) := by decide +kernel
theorem dX2_readCommand_53 : decode cX2_readCommand 53 = .ok (.iconst 1, 1) := by decide +kernel
theorem dX2_readCommand_54 : decode cX2_readCommand 54 = .ok (.ireturn, 1) := by decide +kernel
theorem dX2_readCommand_55 : decode cX2_readCommand 55 = .ok (.iload_n 1, 1) := by decide +kernel
theorem dX2_readCommand_56 : decode cX2_readCommand 56 = .ok (.aload_n 0, 1) := by decide +kernel
theorem dX2_readCommand_57 : decode cX2_readCommand 57 = .ok (.getfield 26, 3) := by decide +kernel
theorem dX2_readCommand_60 : decode cX2_readCommand 60 = .ok (.invokestatic 67, 3) := by decide +kernel
theorem dX2_readCommand_63 : decode cX2_readCommand 63 = .ok (.istore_n 1, 1) := by decide +kernel
theorem dX2_readCommand_64 : decode cX2_readCommand 64 = .ok (.iinc 4 1, 3) := by decide +kernel
theorem dX2_readCommand_67 : decode cX2_readCommand 67 = .ok (.goto (-52), 3) := by decide +kernel
theorem dX2_readCommand_70 : decode cX2_readCommand 70 = .ok (.aload_n 0, 1) := by decide +kernel
theorem dX2_readCommand_71 : decode cX2_readCommand 71 = .ok (.iload_n 1, 1) := by decide +kernel
theorem dX2_readCommand_72 : decode cX2_readCommand 72 = .ok (.putfield 23, 3) := by decide +kernel
theorem dX2_readCommand_75 : decode cX2_readCommand 75 = .ok (.iconst 0, 1) := by decide +kernel
theorem dX2_readCommand_76 : decode cX2_readCommand 76 = .ok (.ireturn, 1) := by decide +kernel
theorem dX2_matches_0 : decode cX2_matches 0 = .ok (.aload_n 0, 1) := by decide +kernel
theorem dX2_matches_1 : decode cX2_matches 1 = .ok (.aload_n 0, 1) := by decide +kernel
theorem dX2_matches_2 : decode cX2_matches 2 = .ok (.getfield 23, 3) := by decide +kernel
theorem dX2_matches_5 : decode cX2_matches 5 = .ok (.putfield 26, 3) := by decide +kernel
theorem dX2_matches_8 : decode cX2_matches 8 = .ok (.aload_n 0, 1) := by decide +kernel
theorem dX2_matches_9 : decode cX2_matches 9 = .ok (.iconst 0, 1) := by decide +kernel
theorem dX2_matches_10 : decode cX2_matches 10 = .ok (.putfield 29, 3) := by decide +kernel
theorem dX2_matches_13 : decode cX2_matches 13 = .ok (.iconst 0, 1) := by decide +kernel
theorem dX2_matches_14 : decode cX2_matches 14 = .ok (.istore_n 2, 1) := by decide +kernel
theorem dX2_matches_15 : decode cX2_matches 15 = .ok (.iload_n 2, 1) := by decide +kernel
theorem dX2_matches_16 : decode cX2_matches 16 = .ok (.aload_n 1, 1) := by decide +kernel
theorem dX2_matches_17 : decode cX2_matches 17 = .ok (.invokevirtual 73, 3) := by decide +kernel
theorem dX2_matches_20 : decode cX2_matches 20 = .ok (.if_icmp .ge 23, 3) := by decide +kernel
theorem dX2_matches_23 : decode cX2_matches 23 = .ok (.aload_n 0, 1) := by decide +kernel
theorem dX2_matches_24 : decode cX2_matches 24 = .ok (.aload_n 1, 1) := by decide +kernel
theorem dX2_matches_25 : decode cX2_matches 25 = .ok (.iload_n 2, 1) := by decide +kernel
theorem dX2_matches_26 : decode cX2_matches 26 = .ok (.invokevirtual 78, 3) := by decide +kernel
theorem dX2_matches_29 : decode cX2_matches 29 = .ok (.invokevirtual 82, 3) := by decide +kernel
theorem dX2_matches_32 : decode cX2_matches 32 = .ok (.ifCond .ne 5, 3) := by decide +kernel
theorem dX2_matches_35 : decode cX2_matches 35 = .ok (.iconst 0, 1) := by decide +kernel
theorem dX2_matches_36 : decode cX2_matches 36 = .ok (.ireturn, 1) := by decide +kernel
theorem dX2_matches_37 : decode cX2_matches 37 = .ok (.iinc 2 1, 3) := by decide +kernel
theorem dX2_matches_40 : decode cX2_matches 40 = .ok (.goto (-25), 3) := by decide +kernel
theorem dX2_matches_43 : decode cX2_matches 43 = .ok (.iconst 1, 1) := by decide +kernel
theorem dX2_matches_44 : decode cX2_matches 44 = .ok (.ireturn, 1) := by decide +kernel
theorem dX2_matchesSign_0 : decode cX2_matchesSign 0 = .ok (.iload_n 1, 1) := by decide +kernel
theorem dX2_matchesSign_1 : decode cX2_matchesSign 1 = .ok (.bipush 35, 2) := by decide +kernel
theorem dX2_matchesSign_3 : decode cX2_matchesSign 3 = .ok (.if_icmp .eq 9, 3) := by decide +kernel
theorem dX2_matchesSign_6 : decode cX2_matchesSign 6 = .ok (.iload_n 1, 1) := by decide +kernel
theorem dX2_matchesSign_7 : decode cX2_matchesSign 7 = .ok (.bipush 37, 2) := by decide +kernel
theorem dX2_matchesSign_9 : decode cX2_matchesSign 9 = .ok (.if_icmp .ne 19, 3) := by decide +kernel
theorem dX2_matchesSign_12 : decode cX2_matchesSign 12 = .ok (.aload_n 0, 1) := by decide +kernel
theorem dX2_matchesSign_13 : decode cX2_matchesSign 13 = .ok (.iload_n 1, 1) := by decide +kernel
theorem dX2_matchesSign_14 : decode cX2_matchesSign 14 = .ok (.bipush 37, 2) := by decide +kernel
theorem dX2_matchesSign_16 : decode cX2_matchesSign 16 = .ok (.if_icmp .ne 7, 3) := by decide +kernel
theorem dX2_matchesSign_19 : decode cX2_matchesSign 19 = .ok (.iconst 2, 1) := by decide +kernel
theorem dX2_matchesSign_20 : decode cX2_matchesSign 20 = .ok (.goto 4, 3) := by decide +kernel
theorem dX2_matchesSign_23 : decode cX2_matchesSign 23 = .ok (.iconst 1, 1) := by decide +kernel
theorem dX2_matchesSign_24 : decode cX2_matchesSign 24 = .ok (.invokevirtual 86, 3) := by decide +kernel
theorem dX2_matchesSign_27 : decode cX2_matchesSign 27 = .ok (.ireturn, 1) := by decide +kernel
theorem dX2_matchesSign_28 : decode cX2_matchesSign 28 = .ok (.aload_n 0, 1) := by decide +kernel
theorem dX2_matchesSign_29 : decode cX2_matchesSign 29 = .ok (.aload_n 0, 1) := by decide +kernel
theorem dX2_matchesSign_30 : decode cX2_matchesSign 30 = .ok (.getfield 26, 3) := by decide +kernel
theorem dX2_matchesSign_33 : decode cX2_matchesSign 33 = .ok (.iload_n 1, 1) := by decide +kernel
theorem dX2_matchesSign_34 : decode cX2_matchesSign 34 = .ok (.invokevirtual 51, 3) := by decide +kernel
theorem dX2_matchesSign_37 : decode cX2_matchesSign 37 = .ok (.ifCond .ne 5, 3) := by decide +kernel
theorem dX2_matchesSign_40 : decode cX2_matchesSign 40 = .ok (.iconst 0, 1) := by decide +kernel
theorem dX2_matchesSign_41 : decode cX2_matchesSign 41 = .ok (.ireturn, 1) := by decide +kernel
theorem dX2_matchesSign_42 : decode cX2_matchesSign 42 = .ok (.aload_n 0, 1) := by decide +kernel
theorem dX2_matchesSign_43 : decode cX2_matchesSign 43 = .ok (.dup, 1) := by decide +kernel
theorem dX2_matchesSign_44 : decode cX2_matchesSign 44 = .ok (.getfield 26, 3) := by decide +kernel
theorem dX2_matchesSign_47 : decode cX2_matchesSign 47 = .ok (.iconst 1, 1) := by decide +kernel
theorem dX2_matchesSign_48 : decode cX2_matchesSign 48 = .ok (.iadd, 1) := by decide +kernel
theorem dX2_matchesSign_49 : decode cX2_matchesSign 49 = .ok (.putfield 26, 3) := by decide +kernel
theorem dX2_matchesSign_52 : decode cX2_matchesSign 52 = .ok (.iconst 1, 1) := by decide +kernel
theorem dX2_matchesSign_53 : decode cX2_matchesSign 53 = .ok (.ireturn, 1) := by decide +kernel
theorem dX2_matchesNumber_0 : decode cX2_matchesNumber 0 = .ok (.iconst 0, 1) := by decide +kernel
theorem dX2_matchesNumber_1 : decode cX2_matchesNumber 1 = .ok (.istore_n 2, 1) := by decide +kernel
theorem dX2_matchesNumber_2 : decode cX2_matchesNumber 2 = .ok (.iconst 0, 1) := by decide +kernel
theorem dX2_matchesNumber_3 : decode cX2_matchesNumber 3 = .ok (.istore_n 3, 1) := by decide +kernel
theorem dX2_matchesNumber_4 : decode cX2_matchesNumber 4 = .ok (.iload_n 3, 1) := by decide +kernel
theorem dX2_matchesNumber_5 : decode cX2_matchesNumber 5 = .ok (.iload_n 1, 1) := by decide +kernel
theorem dX2_matchesNumber_6 : decode cX2_matchesNumber 6 = .ok (.if_icmp .ge 44, 3) := by decide +kernel
theorem dX2_matchesNumber_9 : decode cX2_matchesNumber 9 = .ok (.aload_n 0, 1) := by decide +kernel
theorem dX2_matchesNumber_10 : decode cX2_matchesNumber 10 = .ok (.aload_n 0, 1) := by decide +kernel
theorem dX2_matchesNumber_11 : decode cX2_matchesNumber 11 = .ok (.getfield 26, 3) := by decide +kernel
theorem dX2_matchesNumber_14 : decode cX2_matchesNumber 14 = .ok (.invokevirtual 90, 3) := by decide +kernel
theorem dX2_matchesNumber_17 : decode cX2_matchesNumber 17 = .ok (.ifCond .eq 33, 3) := by decide +kernel
theorem dX2_matchesNumber_20 : decode cX2_matchesNumber 20 = .ok (.bipush 10, 2) := by decide +kernel
theorem dX2_matchesNumber_22 : decode cX2_matchesNumber 22 = .ok (.iload_n 2, 1) := by decide +kernel
theorem dX2_matchesNumber_23 : decode cX2_matchesNumber 23 = .ok (.imul, 1) := by decide +kernel
theorem dX2_matchesNumber_24 : decode cX2_matchesNumber 24 = .ok (.aload_n 0, 1) := by decide +kernel
theorem dX2_matchesNumber_25 : decode cX2_matchesNumber 25 = .ok (.aload_n 0, 1) := by decide +kernel
theorem dX2_matchesNumber_26 : decode cX2_matchesNumber 26 = .ok (.getfield 26, 3) := by decide +kernel
theorem dX2_matchesNumber_29 : decode cX2_matchesNumber 29 = .ok (.invokevirtual 93, 3) := by decide +kernel
theorem dX2_matchesNumber_32 : decode cX2_matchesNumber 32 = .ok (.iadd, 1) := by decide +kernel
theorem dX2_matchesNumber_33 : decode cX2_matchesNumber 33 = .ok (.istore_n 2, 1) := by decide +kernel
theorem dX2_matchesNumber_34 : decode cX2_matchesNumber 34 = .ok (.iinc 3 1, 3) := by decide +kernel
theorem dX2_matchesNumber_37 : decode cX2_matchesNumber 37 = .ok (.aload_n 0, 1) := by decide +kernel
theorem dX2_matchesNumber_38 : decode cX2_matchesNumber 38 = .ok (.dup, 1) := by decide +kernel
theorem dX2_matchesNumber_39 : decode cX2_matchesNumber 39 = .ok (.getfield 26, 3) := by decide +kernel
theorem dX2_matchesNumber_42 : decode cX2_matchesNumber 42 = .ok (.iconst 1, 1) := by decide +kernel
theorem dX2_matchesNumber_43 : decode cX2_matchesNumber 43 = .ok (.iadd, 1) := by decide +kernel
theorem dX2_matchesNumber_44 : decode cX2_matchesNumber 44 = .ok (.putfield 26, 3) := by decide +kernel
theorem dX2_matchesNumber_47 : decode cX2_matchesNumber 47 = .ok (.goto (-43), 3) := by decide +kernel
theorem dX2_matchesNumber_50 : decode cX2_matchesNumber 50 = .ok (.iload_n 3, 1) := by decide +kernel
theorem dX2_matchesNumber_51 : decode cX2_matchesNumber 51 = .ok (.ifCond .eq 22, 3) := by decide +kernel
theorem dX2_matchesNumber_54 : decode cX2_matchesNumber 54 = .ok (.aload_n 0, 1) := by decide +kernel
theorem dX2_matchesNumber_55 : decode cX2_matchesNumber 55 = .ok (.getfield 29, 3) := by decide +kernel
theorem dX2_matchesNumber_58 : decode cX2_matchesNumber 58 = .ok (.ifCond .lt 15, 3) := by decide +kernel
theorem dX2_matchesNumber_61 : decode cX2_matchesNumber 61 = .ok (.aload_n 0, 1) := by decide +kernel
theorem dX2_matchesNumber_62 : decode cX2_matchesNumber 62 = .ok (.getfield 29, 3) := by decide +kernel
theorem dX2_matchesNumber_65 : decode cX2_matchesNumber 65 = .ok (.aload_n 0, 1) := by decide +kernel
theorem dX2_matchesNumber_66 : decode cX2_matchesNumber 66 = .ok (.getfield 15, 3) := by decide +kernel
theorem dX2_matchesNumber_69 : decode cX2_matchesNumber 69 = .ok (.arraylength, 1) := by decide +kernel
theorem dX2_matchesNumber_70 : decode cX2_matchesNumber 70 = .ok (.if_icmp .lt 5, 3) := by decide +kernel
theorem dX2_matchesNumber_73 : decode cX2_matchesNumber 73 = .ok (.iconst 0, 1) := by decide +kernel
theorem dX2_matchesNumber_74 : decode cX2_matchesNumber 74 = .ok (.ireturn, 1) := by decide +kernel
theorem dX2_matchesNumber_75 : decode cX2_matchesNumber 75 = .ok (.aload_n 0, 1) := by decide +kernel
theorem dX2_matchesNumber_76 : decode cX2_matchesNumber 76 = .ok (.getfield 15, 3) := by decide +kernel
theorem dX2_matchesNumber_79 : decode cX2_matchesNumber 79 = .ok (.aload_n 0, 1) := by decide +kernel
theorem dX2_matchesNumber_80 : decode cX2_matchesNumber 80 = .ok (.getfield 29, 3) := by decide +kernel
theorem dX2_matchesNumber_83 : decode cX2_matchesNumber 83 = .ok (.iload_n 2, 1) := by decide +kernel
theorem dX2_matchesNumber_84 : decode cX2_matchesNumber 84 = .ok (.iastore, 1) := by decide +kernel
theorem dX2_matchesNumber_85 : decode cX2_matchesNumber 85 = .ok (.aload_n 0, 1) := by decide +kernel
theorem dX2_matchesNumber_86 : decode cX2_matchesNumber 86 = .ok (.dup, 1) := by decide +kernel
theorem dX2_matchesNumber_87 : decode cX2_matchesNumber 87 = .ok (.getfield 29, 3) := by decide +kernel
theorem dX2_matchesNumber_90 : decode cX2_matchesNumber 90 = .ok (.iconst 1, 1) := by decide +kernel
theorem dX2_matchesNumber_91 : decode cX2_matchesNumber 91 = .ok (.iadd, 1) := by decide +kernel
theorem dX2_matchesNumber_92 : decode cX2_matchesNumber 92 = .ok (.putfield 29, 3) := by decide +kernel
theorem dX2_matchesNumber_95 : decode cX2_matchesNumber 95 = .ok (.iconst 1, 1) := by decide +kernel
theorem dX2_matchesNumber_96 : decode cX2_matchesNumber 96 = .ok (.ireturn, 1) := by decide +kernel
theorem dX2_number_0 : decode cX2_number 0 = .ok (.iload_n 1, 1) := by decide +kernel
theorem dX2_number_1 : decode cX2_number 1 = .ok (.ifCond .lt 29, 3) := by decide +kernel
theorem dX2_number_4 : decode cX2_number 4 = .ok (.iload_n 1, 1) := by decide +kernel
theorem dX2_number_5 : decode cX2_number 5 = .ok (.aload_n 0, 1) := by decide +kernel
theorem dX2_number_6 : decode cX2_number 6 = .ok (.getfield 29, 3) := by decide +kernel
theorem dX2_number_9 : decode cX2_number 9 = .ok (.if_icmp .ge 21, 3) := by decide +kernel
theorem dX2_number_12 : decode cX2_number 12 = .ok (.iload_n 1, 1) := by decide +kernel
theorem dX2_number_13 : decode cX2_number 13 = .ok (.aload_n 0, 1) := by decide +kernel
theorem dX2_number_14 : decode cX2_number 14 = .ok (.getfield 15, 3) := by decide +kernel
theorem dX2_number_17 : decode cX2_number 17 = .ok (.arraylength, 1) := by decide +kernel
theorem dX2_number_18 : decode cX2_number 18 = .ok (.if_icmp .ge 12, 3) := by decide +kernel
theorem dX2_number_21 : decode cX2_number 21 = .ok (.aload_n 0, 1) := by decide +kernel
theorem dX2_number_22 : decode cX2_number 22 = .ok (.getfield 15, 3) := by decide +kernel
theorem dX2_number_25 : decode cX2_number 25 = .ok (.iload_n 1, 1) := by decide +kernel
theorem dX2_number_26 : decode cX2_number 26 = .ok (.iaload, 1) := by decide +kernel
theorem dX2_number_27 : decode cX2_number 27 = .ok (.goto 4, 3) := by decide +kernel
theorem dX2_number_30 : decode cX2_number 30 = .ok (.iconst 0, 1) := by decide +kernel
theorem dX2_number_31 : decode cX2_number 31 = .ok (.ireturn, 1) := by decide +kernel
theorem dX2_isAt_0 : decode cX2_isAt 0 = .ok (.iload_n 1, 1) := by decide +kernel
theorem dX2_isAt_1 : decode cX2_isAt 1 = .ok (.ifCond .lt 34, 3) := by decide +kernel
theorem dX2_isAt_4 : decode cX2_isAt 4 = .ok (.iload_n 1, 1) := by decide +kernel
theorem dX2_isAt_5 : decode cX2_isAt 5 = .ok (.aload_n 0, 1) := by decide +kernel
theorem dX2_isAt_6 : decode cX2_isAt 6 = .ok (.getfield 19, 3) := by decide +kernel
theorem dX2_isAt_9 : decode cX2_isAt 9 = .ok (.if_icmp .ge 26, 3) := by decide +kernel
theorem dX2_isAt_12 : decode cX2_isAt 12 = .ok (.iload_n 1, 1) := by decide +kernel
theorem dX2_isAt_13 : decode cX2_isAt 13 = .ok (.aload_n 0, 1) := by decide +kernel
theorem dX2_isAt_14 : decode cX2_isAt 14 = .ok (.getfield 9, 3) := by decide +kernel
theorem dX2_isAt_17 : decode cX2_isAt 17 = .ok (.arraylength, 1) := by decide +kernel
theorem dX2_isAt_18 : decode cX2_isAt 18 = .ok (.if_icmp .ge 17, 3) := by decide +kernel
theorem dX2_isAt_21 : decode cX2_isAt 21 = .ok (.aload_n 0, 1) := by decide +kernel
theorem dX2_isAt_22 : decode cX2_isAt 22 = .ok (.getfield 9, 3) := by decide +kernel
theorem dX2_isAt_25 : decode cX2_isAt 25 = .ok (.iload_n 1, 1) := by decide +kernel
theorem dX2_isAt_26 : decode cX2_isAt 26 = .ok (.caload, 1) := by decide +kernel
theorem dX2_isAt_27 : decode cX2_isAt 27 = .ok (.iload_n 2, 1) := by decide +kernel
theorem dX2_isAt_28 : decode cX2_isAt 28 = .ok (.if_icmp .ne 7, 3) := by decide +kernel
theorem dX2_isAt_31 : decode cX2_isAt 31 = .ok (.iconst 1, 1) := by decide +kernel
theorem dX2_isAt_32 : decode cX2_isAt 32 = .ok (.goto 4, 3) := by decide +kernel
theorem dX2_isAt_35 : decode cX2_isAt 35 = .ok (.iconst 0, 1) := by decide +kernel
theorem dX2_isAt_36 : decode cX2_isAt 36 = .ok (.ireturn, 1) := by decide +kernel
theorem dX2_isDigitAt_0 : decode cX2_isDigitAt 0 = .ok (.iload_n 1, 1) := by decide +kernel
theorem dX2_isDigitAt_1 : decode cX2_isDigitAt 1 = .ok (.ifCond .lt 46, 3) := by decide +kernel
theorem dX2_isDigitAt_4 : decode cX2_isDigitAt 4 = .ok (.iload_n 1, 1) := by decide +kernel
theorem dX2_isDigitAt_5 : decode cX2_isDigitAt 5 = .ok (.aload_n 0, 1) := by decide +kernel
theorem dX2_isDigitAt_6 : decode cX2_isDigitAt 6 = .ok (.getfield 19, 3) := by decide +kernel
theorem dX2_isDigitAt_9 : decode cX2_isDigitAt 9 = .ok (.if_icmp .ge 38, 3) := by decide +kernel
theorem dX2_isDigitAt_12 : decode cX2_isDigitAt 12 = .ok (.iload_n 1, 1) := by decide +kernel
theorem dX2_isDigitAt_13 : decode cX2_isDigitAt 13 = .ok (.aload_n 0, 1) := by decide +kernel
theorem dX2_isDigitAt_14 : decode cX2_isDigitAt 14 = .ok (.getfield 9, 3) := by decide +kernel
theorem dX2_isDigitAt_17 : decode cX2_isDigitAt 17 = .ok (.arraylength, 1) := by decide +kernel
theorem dX2_isDigitAt_18 : decode cX2_isDigitAt 18 = .ok (.if_icmp .ge 29, 3) := by decide +kernel
theorem dX2_isDigitAt_21 : decode cX2_isDigitAt 21 = .ok (.aload_n 0, 1) := by decide +kernel
theorem dX2_isDigitAt_22 : decode cX2_isDigitAt 22 = .ok (.getfield 9, 3) := by decide +kernel
theorem dX2_isDigitAt_25 : decode cX2_isDigitAt 25 = .ok (.iload_n 1, 1) := by decide +kernel
theorem dX2_isDigitAt_26 : decode cX2_isDigitAt 26 = .ok (.caload, 1) := by decide +kernel
theorem dX2_isDigitAt_27 : decode cX2_isDigitAt 27 = .ok (.bipush 48, 2) := by decide +kernel
theorem dX2_isDigitAt_29 : decode cX2_isDigitAt 29 = .ok (.if_icmp .lt 18, 3) := by decide +kernel
theorem dX2_isDigitAt_32 : decode cX2_isDigitAt 32 = .ok (.aload_n 0, 1) := by decide +kernel
theorem dX2_isDigitAt_33 : decode cX2_isDigitAt 33 = .ok (.getfield 9, 3) := by decide +kernel
theorem dX2_isDigitAt_36 : decode cX2_isDigitAt 36 = .ok (.iload_n 1, 1) := by decide +kernel
theorem dX2_isDigitAt_37 : decode cX2_isDigitAt 37 = .ok (.caload, 1) := by decide +kernel
theorem dX2_isDigitAt_38 : decode cX2_isDigitAt 38 = .ok (.bipush 57, 2) := by decide +kernel
theorem dX2_isDigitAt_40 : decode cX2_isDigitAt 40 = .ok (.if_icmp .gt 7, 3) := by decide +kernel
theorem dX2_isDigitAt_43 : decode cX2_isDigitAt 43 = .ok (.iconst 1, 1) := by decide +kernel
theorem dX2_isDigitAt_44 : decode cX2_isDigitAt 44 = .ok (.goto 4, 3) := by decide +kernel
theorem dX2_isDigitAt_47 : decode cX2_isDigitAt 47 = .ok (.iconst 0, 1) := by decide +kernel
theorem dX2_isDigitAt_48 : decode cX2_isDigitAt 48 = .ok (.ireturn, 1) := by decide +kernel
theorem dX2_digitAt_0 : decode cX2_digitAt 0 = .ok (.aload_n 0, 1) := by decide +kernel
theorem dX2_digitAt_1 : decode cX2_digitAt 1 = .ok (.iload_n 1, 1) := by decide +kernel
theorem dX2_digitAt_2 : decode cX2_digitAt 2 = .ok (.invokevirtual 90, 3) := by decide +kernel
theorem dX2_digitAt_5 : decode cX2_digitAt 5 = .ok (.ifCond .eq 15, 3) := by decide +kernel
theorem dX2_digitAt_8 : decode cX2_digitAt 8 = .ok (.aload_n 0, 1) := by decide +kernel
theorem dX2_digitAt_9 : decode cX2_digitAt 9 = .ok (.getfield 9, 3) := by decide +kernel
theorem dX2_digitAt_12 : decode cX2_digitAt 12 = .ok (.iload_n 1, 1) := by decide +kernel
theorem dX2_digitAt_13 : decode cX2_digitAt 13 = .ok (.caload, 1) := by decide +kernel
theorem dX2_digitAt_14 : decode cX2_digitAt 14 = .ok (.bipush 48, 2) := by decide +kernel
theorem dX2_digitAt_16 : decode cX2_digitAt 16 = .ok (.isub, 1) := by decide +kernel
theorem dX2_digitAt_17 : decode cX2_digitAt 17 = .ok (.goto 4, 3) := by decide +kernel
theorem dX2_digitAt_20 : decode cX2_digitAt 20 = .ok (.iconst 0, 1) := by decide +kernel
theorem dX2_digitAt_21 : decode cX2_digitAt 21 = .ok (.ireturn, 1) := by decide +kernel
theorem dX4_init_0 : decode cX4_init 0 = .ok (.aload_n 0, 1) := by decide +kernel
theorem dX4_init_1 : decode cX4_init 1 = .ok (.invokespecial 3, 3) := by decide +kernel
theorem dX4_init_4 : decode cX4_init 4 = .ok (.aload_n 0, 1) := by decide +kernel
theorem dX4_init_5 : decode cX4_init 5 = .ok (.bipush 12, 2) := by decide +kernel
theorem dX4_init_7 : decode cX4_init 7 = .ok (.anewarray 9, 3) := by decide +kernel
theorem dX4_init_10 : decode cX4_init 10 = .ok (.putfield 11, 3) := by decide +kernel
theorem dX4_init_13 : decode cX4_init 13 = .ok (.aload_n 0, 1) := by decide +kernel
theorem dX4_init_14 : decode cX4_init 14 = .ok (.new 17, 3) := by decide +kernel
theorem dX4_init_17 : decode cX4_init 17 = .ok (.dup, 1) := by decide +kernel
theorem dX4_init_18 : decode cX4_init 18 = .ok (.invokespecial 19, 3) := by decide +kernel
theorem dX4_init_21 : decode cX4_init 21 = .ok (.putfield 20, 3) := by decide +kernel
theorem dX4_init_24 : decode cX4_init 24 = .ok (.aload_n 0, 1) := by decide +kernel
theorem dX4_init_25 : decode cX4_init 25 = .ok (.new 17, 3) := by decide +kernel
theorem dX4_init_28 : decode cX4_init 28 = .ok (.dup, 1) := by decide +kernel
theorem dX4_init_29 : decode cX4_init 29 = .ok (.invokespecial 19, 3) := by decide +kernel
theorem dX4_init_32 : decode cX4_init 32 = .ok (.putfield 24, 3) := by decide +kernel
theorem dX4_init_35 : decode cX4_init 35 = .ok (.aload_n 0, 1) := by decide +kernel
theorem dX4_init_36 : decode cX4_init 36 = .ok (.iconst 0, 1) := by decide +kernel
theorem dX4_init_37 : decode cX4_init 37 = .ok (.putfield 27, 3) := by decide +kernel
theorem dX4_init_40 : decode cX4_init 40 = .ok (.aload_n 0, 1) := by decide +kernel
theorem dX4_init_41 : decode cX4_init 41 = .ok (.iconst 0, 1) := by decide +kernel
theorem dX4_init_42 : decode cX4_init 42 = .ok (.putfield 31, 3) := by decide +kernel
theorem dX4_init_45 : decode cX4_init 45 = .ok (.aload_n 0, 1) := by decide +kernel
theorem dX4_init_46 : decode cX4_init 46 = .ok (.iconst 0, 1) := by decide +kernel
theorem dX4_init_47 : decode cX4_init 47 = .ok (.putfield 35, 3) := by decide +kernel
theorem dX4_init_50 : decode cX4_init 50 = .ok (.aload_n 0, 1) := by decide +kernel
theorem dX4_init_51 : decode cX4_init 51 = .ok (.iconst 0, 1) := by decide +kernel
theorem dX4_init_52 : decode cX4_init 52 = .ok (.putfield 38, 3) := by decide +kernel
theorem dX4_init_55 : decode cX4_init 55 = .ok (.aload_n 0, 1) := by decide +kernel
theorem dX4_init_56 : decode cX4_init 56 = .ok (.iconst 0, 1) := by decide +kernel
theorem dX4_init_57 : decode cX4_init 57 = .ok (.putfield 41, 3) := by decide +kernel
theorem dX4_init_60 : decode cX4_init 60 = .ok (.aload_n 0, 1) := by decide +kernel
theorem dX4_init_61 : decode cX4_init 61 = .ok (.iconst 0, 1) := by decide +kernel
theorem dX4_init_62 : decode cX4_init 62 = .ok (.putfield 44, 3) := by decide +kernel
theorem dX4_init_65 : decode cX4_init 65 = .ok (.aload_n 0, 1) := by decide +kernel
theorem dX4_init_66 : decode cX4_init 66 = .ok (.iconst 0, 1) := by decide +kernel
theorem dX4_init_67 : decode cX4_init 67 = .ok (.putfield 47, 3) := by decide +kernel
theorem dX4_init_70 : decode cX4_init 70 = .ok (.aload_n 0, 1) := by decide +kernel
theorem dX4_init_71 : decode cX4_init 71 = .ok (.lconst 0, 1) := by decide +kernel
theorem dX4_init_72 : decode cX4_init 72 = .ok (.putfield 50, 3) := by decide +kernel
theorem dX4_init_75 : decode cX4_init 75 = .ok (.aload_n 0, 1) := by decide +kernel
theorem dX4_init_76 : decode cX4_init 76 = .ok (.iconst 0, 1) := by decide +kernel
theorem dX4_init_77 : decode cX4_init 77 = .ok (.putfield 54, 3) := by decide +kernel
theorem dX4_init_80 : decode cX4_init 80 = .ok (.iconst 0, 1) := by decide +kernel
theorem dX4_init_81 : decode cX4_init 81 = .ok (.istore_n 1, 1) := by decide +kernel
theorem dX4_init_82 : decode cX4_init 82 = .ok (.iload_n 1, 1) := by decide +kernel
theorem dX4_init_83 : decode cX4_init 83 = .ok (.aload_n 0, 1) := by decide +kernel
theorem dX4_init_84 : decode cX4_init 84 = .ok (.getfield 11, 3) := by decide +kernel
theorem dX4_init_87 : decode cX4_init 87 = .ok (.arraylength, 1) := by decide +kernel
theorem dX4_init_88 : decode cX4_init 88 = .ok (.if_icmp .ge 23, 3) := by decide +kernel
theorem dX4_init_91 : decode cX4_init 91 = .ok (.aload_n 0, 1) := by decide +kernel
theorem dX4_init_92 : decode cX4_init 92 = .ok (.getfield 11, 3) := by decide +kernel
theorem dX4_init_95 : decode cX4_init 95 = .ok (.iload_n 1, 1) := by decide +kernel
theorem dX4_init_96 : decode cX4_init 96 = .ok (.new 9, 3) := by decide +kernel
theorem dX4_init_99 : decode cX4_init 99 = .ok (.dup, 1) := by decide +kernel
theorem dX4_init_100 : decode cX4_init 100 = .ok (.iload_n 1, 1) := by decide +kernel
theorem dX4_init_101 : decode cX4_init 101 = .ok (.invokespecial 57, 3) := by decide +kernel
theorem dX4_init_104 : decode cX4_init 104 = .ok (.aastore, 1) := by decide +kernel
theorem dX4_init_105 : decode cX4_init 105 = .ok (.iinc 1 1, 3) := by decide +kernel
theorem dX4_init_108 : decode cX4_init 108 = .ok (.goto (-26), 3) := by decide +kernel
theorem dX4_init_111 : decode cX4_init 111 = .ok (.return_, 1) := by decide +kernel
theorem dX4_copyFrom_0 : decode cX4_copyFrom 0 = .ok (.iconst 0, 1) := by decide +kernel
theorem dX4_copyFrom_1 : decode cX4_copyFrom 1 = .ok (.istore_n 2, 1) := by decide +kernel
theorem dX4_copyFrom_2 : decode cX4_copyFrom 2 = .ok (.iload_n 2, 1) := by decide +kernel
theorem dX4_copyFrom_3 : decode cX4_copyFrom 3 = .ok (.aload_n 0, 1) := by decide +kernel
theorem dX4_copyFrom_4 : decode cX4_copyFrom 4 = .ok (.getfield 11, 3) := by decide +kernel
theorem dX4_copyFrom_7 : decode cX4_copyFrom 7 = .ok (.arraylength, 1) := by decide +kernel
theorem dX4_copyFrom_8 : decode cX4_copyFrom 8 = .ok (.if_icmp .ge 33, 3) := by decide +kernel
theorem dX4_copyFrom_11 : decode cX4_copyFrom 11 = .ok (.iload_n 2, 1) := by decide +kernel
theorem dX4_copyFrom_12 : decode cX4_copyFrom 12 = .ok (.aload_n 1, 1) := by decide +kernel
theorem dX4_copyFrom_13 : decode cX4_copyFrom 13 = .ok (.getfield 11, 3) := by decide +kernel
theorem dX4_copyFrom_16 : decode cX4_copyFrom 16 = .ok (.arraylength, 1) := by decide +kernel
theorem dX4_copyFrom_17 : decode cX4_copyFrom 17 = .ok (.if_icmp .ge 24, 3) := by decide +kernel
theorem dX4_copyFrom_20 : decode cX4_copyFrom 20 = .ok (.aload_n 0, 1) := by decide +kernel
theorem dX4_copyFrom_21 : decode cX4_copyFrom 21 = .ok (.getfield 11, 3) := by decide +kernel
theorem dX4_copyFrom_24 : decode cX4_copyFrom 24 = .ok (.iload_n 2, 1) := by decide +kernel
theorem dX4_copyFrom_25 : decode cX4_copyFrom 25 = .ok (.aaload, 1) := by decide +kernel
theorem dX4_copyFrom_26 : decode cX4_copyFrom 26 = .ok (.aload_n 1, 1) := by decide +kernel
theorem dX4_copyFrom_27 : decode cX4_copyFrom 27 = .ok (.getfield 11, 3) := by decide +kernel
theorem dX4_copyFrom_30 : decode cX4_copyFrom 30 = .ok (.iload_n 2, 1) := by decide +kernel
theorem dX4_copyFrom_31 : decode cX4_copyFrom 31 = .ok (.aaload, 1) := by decide +kernel
theorem dX4_copyFrom_32 : decode cX4_copyFrom 32 = .ok (.invokevirtual 60, 3) := by decide +kernel
theorem dX4_copyFrom_35 : decode cX4_copyFrom 35 = .ok (.iinc 2 1, 3) := by decide +kernel
theorem dX4_copyFrom_38 : decode cX4_copyFrom 38 = .ok (.goto (-36), 3) := by decide +kernel
theorem dX4_copyFrom_41 : decode cX4_copyFrom 41 = .ok (.aload_n 0, 1) := by decide +kernel
theorem dX4_copyFrom_42 : decode cX4_copyFrom 42 = .ok (.getfield 20, 3) := by decide +kernel
theorem dX4_copyFrom_45 : decode cX4_copyFrom 45 = .ok (.aload_n 1, 1) := by decide +kernel
theorem dX4_copyFrom_46 : decode cX4_copyFrom 46 = .ok (.getfield 20, 3) := by decide +kernel
theorem dX4_copyFrom_49 : decode cX4_copyFrom 49 = .ok (.invokevirtual 64, 3) := by decide +kernel
theorem dX4_copyFrom_52 : decode cX4_copyFrom 52 = .ok (.aload_n 0, 1) := by decide +kernel
theorem dX4_copyFrom_53 : decode cX4_copyFrom 53 = .ok (.getfield 24, 3) := by decide +kernel
theorem dX4_copyFrom_56 : decode cX4_copyFrom 56 = .ok (.aload_n 1, 1) := by decide +kernel
theorem dX4_copyFrom_57 : decode cX4_copyFrom 57 = .ok (.getfield 24, 3) := by decide +kernel
theorem dX4_copyFrom_60 : decode cX4_copyFrom 60 = .ok (.invokevirtual 64, 3) := by decide +kernel
theorem dX4_copyFrom_63 : decode cX4_copyFrom 63 = .ok (.aload_n 0, 1) := by decide +kernel
theorem dX4_copyFrom_64 : decode cX4_copyFrom 64 = .ok (.aload_n 1, 1) := by decide +kernel
theorem dX4_copyFrom_65 : decode cX4_copyFrom 65 = .ok (.getfield 27, 3) := by decide +kernel
theorem dX4_copyFrom_68 : decode cX4_copyFrom 68 = .ok (.putfield 27, 3) := by decide +kernel
theorem dX4_copyFrom_71 : decode cX4_copyFrom 71 = .ok (.aload_n 0, 1) := by decide +kernel
theorem dX4_copyFrom_72 : decode cX4_copyFrom 72 = .ok (.aload_n 1, 1) := by decide +kernel
theorem dX4_copyFrom_73 : decode cX4_copyFrom 73 = .ok (.getfield 31, 3) := by decide +kernel
theorem dX4_copyFrom_76 : decode cX4_copyFrom 76 = .ok (.putfield 31, 3) := by decide +kernel
theorem dX4_copyFrom_79 : decode cX4_copyFrom 79 = .ok (.aload_n 0, 1) := by decide +kernel
theorem dX4_copyFrom_80 : decode cX4_copyFrom 80 = .ok (.aload_n 1, 1) := by decide +kernel
theorem dX4_copyFrom_81 : decode cX4_copyFrom 81 = .ok (.getfield 35, 3) := by decide +kernel
theorem dX4_copyFrom_84 : decode cX4_copyFrom 84 = .ok (.putfield 35, 3) := by decide +kernel
theorem dX4_copyFrom_87 : decode cX4_copyFrom 87 = .ok (.aload_n 0, 1) := by decide +kernel
theorem dX4_copyFrom_88 : decode cX4_copyFrom 88 = .ok (.aload_n 1, 1) := by decide +kernel
theorem dX4_copyFrom_89 : decode cX4_copyFrom 89 = .ok (.getfield 38, 3) := by decide +kernel
theorem dX4_copyFrom_92 : decode cX4_copyFrom 92 = .ok (.putfield 38, 3) := by decide +kernel
theorem dX4_copyFrom_95 : decode cX4_copyFrom 95 = .ok (.aload_n 0, 1) := by decide +kernel
theorem dX4_copyFrom_96 : decode cX4_copyFrom 96 = .ok (.aload_n 1, 1) := by decide +kernel
theorem dX4_copyFrom_97 : decode cX4_copyFrom 97 = .ok (.getfield 41, 3) := by decide +kernel
theorem dX4_copyFrom_100 : decode cX4_copyFrom 100 = .ok (.putfield 41, 3) := by decide +kernel
theorem dX4_copyFrom_103 : decode cX4_copyFrom 103 = .ok (.aload_n 0, 1) := by decide +kernel
theorem dX4_copyFrom_104 : decode cX4_copyFrom 104 = .ok (.aload_n 1, 1) := by decide +kernel
theorem dX4_copyFrom_105 : decode cX4_copyFrom 105 = .ok (.getfield 44, 3) := by decide +kernel
theorem dX4_copyFrom_108 : decode cX4_copyFrom 108 = .ok (.putfield 44, 3) := by decide +kernel
theorem dX4_copyFrom_111 : decode cX4_copyFrom 111 = .ok (.aload_n 0, 1) := by decide +kernel
theorem dX4_copyFrom_112 : decode cX4_copyFrom 112 = .ok (.aload_n 1, 1) := by decide +kernel
theorem dX4_copyFrom_113 : decode cX4_copyFrom 113 = .ok (.getfield 47, 3) := by decide +kernel
theorem dX4_copyFrom_116 : decode cX4_copyFrom 116 = .ok (.putfield 47, 3) := by decide +kernel
theorem dX4_copyFrom_119 : decode cX4_copyFrom 119 = .ok (.aload_n 0, 1) := by decide +kernel
theorem dX4_copyFrom_120 : decode cX4_copyFrom 120 = .ok (.aload_n 1, 1) := by decide +kernel
theorem dX4_copyFrom_121 : decode cX4_copyFrom 121 = .ok (.getfield 50, 3) := by decide +kernel
theorem dX4_copyFrom_124 : decode cX4_copyFrom 124 = .ok (.putfield 50, 3) := by decide +kernel
theorem dX4_copyFrom_127 : decode cX4_copyFrom 127 = .ok (.aload_n 0, 1) := by decide +kernel
theorem dX4_copyFrom_128 : decode cX4_copyFrom 128 = .ok (.aload_n 1, 1) := by decide +kernel
theorem dX4_copyFrom_129 : decode cX4_copyFrom 129 = .ok (.getfield 54, 3) := by decide +kernel
theorem dX4_copyFrom_132 : decode cX4_copyFrom 132 = .ok (.putfield 54, 3) := by decide +kernel
theorem dX4_copyFrom_135 : decode cX4_copyFrom 135 = .ok (.return_, 1) := by decide +kernel
theorem dX4_numbered_0 : decode cX4_numbered 0 = .ok (.iload_n 1, 1) := by decide +kernel
theorem dX4_numbered_1 : decode cX4_numbered 1 = .ok (.ifCond .lt 20, 3) := by decide +kernel
theorem dX4_numbered_4 : decode cX4_numbered 4 = .ok (.iload_n 1, 1) := by decide +kernel
theorem dX4_numbered_5 : decode cX4_numbered 5 = .ok (.aload_n 0, 1) := by decide +kernel
theorem dX4_numbered_6 : decode cX4_numbered 6 = .ok (.getfield 27, 3) := by decide +kernel
theorem dX4_numbered_9 : decode cX4_numbered 9 = .ok (.if_icmp .ge 12, 3) := by decide +kernel
theorem dX4_numbered_12 : decode cX4_numbered 12 = .ok (.iload_n 1, 1) := by decide +kernel
theorem dX4_numbered_13 : decode cX4_numbered 13 = .ok (.aload_n 0, 1) := by decide +kernel
theorem dX4_numbered_14 : decode cX4_numbered 14 = .ok (.getfield 11, 3) := by decide +kernel
theorem dX4_numbered_17 : decode cX4_numbered 17 = .ok (.arraylength, 1) := by decide +kernel
theorem dX4_numbered_18 : decode cX4_numbered 18 = .ok (.if_icmp .lt 5, 3) := by decide +kernel
theorem dX4_numbered_21 : decode cX4_numbered 21 = .ok (.aconst_null, 1) := by decide +kernel
theorem dX4_numbered_22 : decode cX4_numbered 22 = .ok (.areturn, 1) := by decide +kernel
theorem dX4_numbered_23 : decode cX4_numbered 23 = .ok (.aload_n 0, 1) := by decide +kernel
theorem dX4_numbered_24 : decode cX4_numbered 24 = .ok (.getfield 11, 3) := by decide +kernel
theorem dX4_numbered_27 : decode cX4_numbered 27 = .ok (.iload_n 1, 1) := by decide +kernel
theorem dX4_numbered_28 : decode cX4_numbered 28 = .ok (.aaload, 1) := by decide +kernel
theorem dX4_numbered_29 : decode cX4_numbered 29 = .ok (.areturn, 1) := by decide +kernel
theorem dX4_accountOf_0 : decode cX4_accountOf 0 = .ok (.iload_n 1, 1) := by decide +kernel
theorem dX4_accountOf_1 : decode cX4_accountOf 1 = .ok (.ifCond .ne 10, 3) := by decide +kernel
theorem dX4_accountOf_4 : decode cX4_accountOf 4 = .ok (.aload_n 0, 1) := by decide +kernel
theorem dX4_accountOf_5 : decode cX4_accountOf 5 = .ok (.getfield 20, 3) := by decide +kernel
theorem dX4_accountOf_8 : decode cX4_accountOf 8 = .ok (.goto 7, 3) := by decide +kernel
theorem dX4_accountOf_11 : decode cX4_accountOf 11 = .ok (.aload_n 0, 1) := by decide +kernel
theorem dX4_accountOf_12 : decode cX4_accountOf 12 = .ok (.getfield 24, 3) := by decide +kernel
theorem dX4_accountOf_15 : decode cX4_accountOf 15 = .ok (.areturn, 1) := by decide +kernel
theorem dX4_isOver_0 : decode cX4_isOver 0 = .ok (.aload_n 0, 1) := by decide +kernel
theorem dX4_isOver_1 : decode cX4_isOver 1 = .ok (.getfield 31, 3) := by decide +kernel
theorem dX4_isOver_4 : decode cX4_isOver 4 = .ok (.ifCond .eq 27, 3) := by decide +kernel
theorem dX4_isOver_7 : decode cX4_isOver 7 = .ok (.aload_n 0, 1) := by decide +kernel
theorem dX4_isOver_8 : decode cX4_isOver 8 = .ok (.getfield 20, 3) := by decide +kernel
theorem dX4_isOver_11 : decode cX4_isOver 11 = .ok (.getfield 67, 3) := by decide +kernel
theorem dX4_isOver_14 : decode cX4_isOver 14 = .ok (.ifCond .eq 13, 3) := by decide +kernel
theorem dX4_isOver_17 : decode cX4_isOver 17 = .ok (.aload_n 0, 1) := by decide +kernel
theorem dX4_isOver_18 : decode cX4_isOver 18 = .ok (.getfield 24, 3) := by decide +kernel
theorem dX4_isOver_21 : decode cX4_isOver 21 = .ok (.getfield 67, 3) := by decide +kernel
theorem dX4_isOver_24 : decode cX4_isOver 24 = .ok (.ifCond .ne 7, 3) := by decide +kernel
theorem dX4_isOver_27 : decode cX4_isOver 27 = .ok (.iconst 1, 1) := by decide +kernel
theorem dX4_isOver_28 : decode cX4_isOver 28 = .ok (.goto 4, 3) := by decide +kernel
theorem dX4_isOver_31 : decode cX4_isOver 31 = .ok (.iconst 0, 1) := by decide +kernel
theorem dX4_isOver_32 : decode cX4_isOver 32 = .ok (.ireturn, 1) := by decide +kernel
theorem dX4_isGoingOn_0 : decode cX4_isGoingOn 0 = .ok (.aload_n 0, 1) := by decide +kernel
theorem dX4_isGoingOn_1 : decode cX4_isGoingOn 1 = .ok (.getfield 31, 3) := by decide +kernel
theorem dX4_isGoingOn_4 : decode cX4_isGoingOn 4 = .ok (.ifCond .eq 14, 3) := by decide +kernel
theorem dX4_isGoingOn_7 : decode cX4_isGoingOn 7 = .ok (.aload_n 0, 1) := by decide +kernel
theorem dX4_isGoingOn_8 : decode cX4_isGoingOn 8 = .ok (.invokevirtual 70, 3) := by decide +kernel
theorem dX4_isGoingOn_11 : decode cX4_isGoingOn 11 = .ok (.ifCond .ne 7, 3) := by decide +kernel
theorem dX4_isGoingOn_14 : decode cX4_isGoingOn 14 = .ok (.iconst 1, 1) := by decide +kernel
theorem dX4_isGoingOn_15 : decode cX4_isGoingOn 15 = .ok (.goto 4, 3) := by decide +kernel
theorem dX4_isGoingOn_18 : decode cX4_isGoingOn 18 = .ok (.iconst 0, 1) := by decide +kernel
theorem dX4_isGoingOn_19 : decode cX4_isGoingOn 19 = .ok (.ireturn, 1) := by decide +kernel
theorem dX4_spoonIn_0 : decode cX4_spoonIn 0 = .ok (.aload_n 0, 1) := by decide +kernel
theorem dX4_spoonIn_1 : decode cX4_spoonIn 1 = .ok (.getfield 11, 3) := by decide +kernel
theorem dX4_spoonIn_4 : decode cX4_spoonIn 4 = .ok (.astore_n 3, 1) := by decide +kernel
theorem dX4_spoonIn_5 : decode cX4_spoonIn 5 = .ok (.aload_n 3, 1) := by decide +kernel
theorem dX4_spoonIn_6 : decode cX4_spoonIn 6 = .ok (.arraylength, 1) := by decide +kernel
theorem dX4_spoonIn_7 : decode cX4_spoonIn 7 = .ok (.istore 4, 2) := by decide +kernel
theorem dX4_spoonIn_9 : decode cX4_spoonIn 9 = .ok (.iconst 0, 1) := by decide +kernel
theorem dX4_spoonIn_10 : decode cX4_spoonIn 10 = .ok (.istore 5, 2) := by decide +kernel
theorem dX4_spoonIn_12 : decode cX4_spoonIn 12 = .ok (.iload 5, 2) := by decide +kernel
theorem dX4_spoonIn_14 : decode cX4_spoonIn 14 = .ok (.iload 4, 2) := by decide +kernel
theorem dX4_spoonIn_16 : decode cX4_spoonIn 16 = .ok (.if_icmp .ge 36, 3) := by decide +kernel
theorem dX4_spoonIn_19 : decode cX4_spoonIn 19 = .ok (.aload_n 3, 1) := by decide +kernel
theorem dX4_spoonIn_20 : decode cX4_spoonIn 20 = .ok (.iload 5, 2) := by decide +kernel
theorem dX4_spoonIn_22 : decode cX4_spoonIn 22 = .ok (.aaload, 1) := by decide +kernel
theorem dX4_spoonIn_23 : decode cX4_spoonIn 23 = .ok (.astore 6, 2) := by decide +kernel
theorem dX4_spoonIn_25 : decode cX4_spoonIn 25 = .ok (.aload 6, 2) := by decide +kernel
theorem dX4_spoonIn_27 : decode cX4_spoonIn 27 = .ok (.invokevirtual 74, 3) := by decide +kernel
theorem dX4_spoonIn_30 : decode cX4_spoonIn 30 = .ok (.ifCond .eq 16, 3) := by decide +kernel
theorem dX4_spoonIn_33 : decode cX4_spoonIn 33 = .ok (.aload 6, 2) := by decide +kernel
theorem dX4_spoonIn_35 : decode cX4_spoonIn 35 = .ok (.iload_n 1, 1) := by decide +kernel
theorem dX4_spoonIn_36 : decode cX4_spoonIn 36 = .ok (.iload_n 2, 1) := by decide +kernel
theorem dX4_spoonIn_37 : decode cX4_spoonIn 37 = .ok (.invokevirtual 77, 3) := by decide +kernel
theorem dX4_spoonIn_40 : decode cX4_spoonIn 40 = .ok (.ifCond .eq 6, 3) := by decide +kernel
theorem dX4_spoonIn_43 : decode cX4_spoonIn 43 = .ok (.aload 6, 2) := by decide +kernel
theorem dX4_spoonIn_45 : decode cX4_spoonIn 45 = .ok (.areturn, 1) := by decide +kernel
theorem dX4_spoonIn_46 : decode cX4_spoonIn 46 = .ok (.iinc 5 1, 3) := by decide +kernel
theorem dX4_spoonIn_49 : decode cX4_spoonIn 49 = .ok (.goto (-37), 3) := by decide +kernel
theorem dX4_spoonIn_52 : decode cX4_spoonIn 52 = .ok (.aconst_null, 1) := by decide +kernel
theorem dX4_spoonIn_53 : decode cX4_spoonIn 53 = .ok (.areturn, 1) := by decide +kernel
theorem dX4_ranked_0 : decode cX4_ranked 0 = .ok (.aload_n 0, 1) := by decide +kernel
theorem dX4_ranked_1 : decode cX4_ranked 1 = .ok (.getfield 11, 3) := by decide +kernel
theorem dX4_ranked_4 : decode cX4_ranked 4 = .ok (.astore_n 2, 1) := by decide +kernel
theorem dX4_ranked_5 : decode cX4_ranked 5 = .ok (.aload_n 2, 1) := by decide +kernel
theorem dX4_ranked_6 : decode cX4_ranked 6 = .ok (.arraylength, 1) := by decide +kernel
theorem dX4_ranked_7 : decode cX4_ranked 7 = .ok (.istore_n 3, 1) := by decide +kernel
theorem dX4_ranked_8 : decode cX4_ranked 8 = .ok (.iconst 0, 1) := by decide +kernel
theorem dX4_ranked_9 : decode cX4_ranked 9 = .ok (.istore 4, 2) := by decide +kernel
theorem dX4_ranked_11 : decode cX4_ranked 11 = .ok (.iload 4, 2) := by decide +kernel
theorem dX4_ranked_13 : decode cX4_ranked 13 = .ok (.iload_n 3, 1) := by decide +kernel
theorem dX4_ranked_14 : decode cX4_ranked 14 = .ok (.if_icmp .ge 36, 3) := by decide +kernel
theorem dX4_ranked_17 : decode cX4_ranked 17 = .ok (.aload_n 2, 1) := by decide +kernel
theorem dX4_ranked_18 : decode cX4_ranked 18 = .ok (.iload 4, 2) := by decide +kernel
theorem dX4_ranked_20 : decode cX4_ranked 20 = .ok (.aaload, 1) := by decide +kernel
theorem dX4_ranked_21 : decode cX4_ranked 21 = .ok (.astore 5, 2) := by decide +kernel
theorem dX4_ranked_23 : decode cX4_ranked 23 = .ok (.aload 5, 2) := by decide +kernel
theorem dX4_ranked_25 : decode cX4_ranked 25 = .ok (.invokevirtual 74, 3) := by decide +kernel
theorem dX4_ranked_28 : decode cX4_ranked 28 = .ok (.ifCond .eq 16, 3) := by decide +kernel
theorem dX4_ranked_31 : decode cX4_ranked 31 = .ok (.aload_n 0, 1) := by decide +kernel
theorem dX4_ranked_32 : decode cX4_ranked 32 = .ok (.aload 5, 2) := by decide +kernel
theorem dX4_ranked_34 : decode cX4_ranked 34 = .ok (.invokevirtual 81, 3) := by decide +kernel
theorem dX4_ranked_37 : decode cX4_ranked 37 = .ok (.iload_n 1, 1) := by decide +kernel
theorem dX4_ranked_38 : decode cX4_ranked 38 = .ok (.if_icmp .ne 6, 3) := by decide +kernel
theorem dX4_ranked_41 : decode cX4_ranked 41 = .ok (.aload 5, 2) := by decide +kernel
theorem dX4_ranked_43 : decode cX4_ranked 43 = .ok (.areturn, 1) := by decide +kernel
theorem dX4_ranked_44 : decode cX4_ranked 44 = .ok (.iinc 4 1, 3) := by decide +kernel
theorem dX4_ranked_47 : decode cX4_ranked 47 = .ok (.goto (-36), 3) := by decide +kernel
theorem dX4_ranked_50 : decode cX4_ranked 50 = .ok (.aconst_null, 1) := by decide +kernel
theorem dX4_ranked_51 : decode cX4_ranked 51 = .ok (.areturn, 1) := by decide +kernel
theorem dX4_countRankedBefore_0 : decode cX4_countRankedBefore 0 = .ok (.iconst 0, 1) := by decide +kernel
theorem dX4_countRankedBefore_1 : decode cX4_countRankedBefore 1 = .ok (.istore_n 2, 1) := by decide +kernel
theorem dX4_countRankedBefore_2 : decode cX4_countRankedBefore 2 = .ok (.aload_n 0, 1) := by decide +kernel
theorem dX4_countRankedBefore_3 : decode cX4_countRankedBefore 3 = .ok (.getfield 11, 3) := by decide +kernel
theorem dX4_countRankedBefore_6 : decode cX4_countRankedBefore 6 = .ok (.astore_n 3, 1) := by decide +kernel
theorem dX4_countRankedBefore_7 : decode cX4_countRankedBefore 7 = .ok (.aload_n 3, 1) := by decide +kernel
theorem dX4_countRankedBefore_8 : decode cX4_countRankedBefore 8 = .ok (.arraylength, 1) := by decide +kernel
theorem dX4_countRankedBefore_9 : decode cX4_countRankedBefore 9 = .ok (.istore 4, 2) := by decide +kernel
theorem dX4_countRankedBefore_11 : decode cX4_countRankedBefore 11 = .ok (.iconst 0, 1) := by decide +kernel
theorem dX4_countRankedBefore_12 : decode cX4_countRankedBefore 12 = .ok (.istore 5, 2) := by decide +kernel
theorem dX4_countRankedBefore_14 : decode cX4_countRankedBefore 14 = .ok (.iload 5, 2) := by decide +kernel
theorem dX4_countRankedBefore_16 : decode cX4_countRankedBefore 16 = .ok (.iload 4, 2) := by decide +kernel
theorem dX4_countRankedBefore_18 : decode cX4_countRankedBefore 18 = .ok (.if_icmp .ge 35, 3) := by decide +kernel
theorem dX4_countRankedBefore_21 : decode cX4_countRankedBefore 21 = .ok (.aload_n 3, 1) := by decide +kernel
theorem dX4_countRankedBefore_22 : decode cX4_countRankedBefore 22 = .ok (.iload 5, 2) := by decide +kernel
theorem dX4_countRankedBefore_24 : decode cX4_countRankedBefore 24 = .ok (.aaload, 1) := by decide +kernel
theorem dX4_countRankedBefore_25 : decode cX4_countRankedBefore 25 = .ok (.astore 6, 2) := by decide +kernel
theorem dX4_countRankedBefore_27 : decode cX4_countRankedBefore 27 = .ok (.aload 6, 2) := by decide +kernel
theorem dX4_countRankedBefore_29 : decode cX4_countRankedBefore 29 = .ok (.invokevirtual 74, 3) := by decide +kernel
theorem dX4_countRankedBefore_32 : decode cX4_countRankedBefore 32 = .ok (.ifCond .eq 15, 3) := by decide +kernel
theorem dX4_countRankedBefore_35 : decode cX4_countRankedBefore 35 = .ok (.aload 6, 2) := by decide +kernel
theorem dX4_countRankedBefore_37 : decode cX4_countRankedBefore 37 = .ok (.aload_n 1, 1) := by decide +kernel
theorem dX4_countRankedBefore_38 : decode cX4_countRankedBefore 38 = .ok (.invokevirtual 85, 3) := by decide +kernel
theorem dX4_countRankedBefore_41 : decode cX4_countRankedBefore 41 = .ok (.ifCond .eq 6, 3) := by decide +kernel
theorem dX4_countRankedBefore_44 : decode cX4_countRankedBefore 44 = .ok (.iinc 2 1, 3) := by decide +kernel
theorem dX4_countRankedBefore_47 : decode cX4_countRankedBefore 47 = .ok (.iinc 5 1, 3) := by decide +kernel
theorem dX4_countRankedBefore_50 : decode cX4_countRankedBefore 50 = .ok (.goto (-36), 3) := by decide +kernel
theorem dX4_countRankedBefore_53 : decode cX4_countRankedBefore 53 = .ok (.iload_n 2, 1) := by decide +kernel
theorem dX4_countRankedBefore_54 : decode cX4_countRankedBefore 54 = .ok (.ireturn, 1) := by decide +kernel
theorem dX4_targetsBySpoons_0 : decode cX4_targetsBySpoons 0 = .ok (.iconst 0, 1) := by decide +kernel
theorem dX4_targetsBySpoons_1 : decode cX4_targetsBySpoons 1 = .ok (.istore_n 2, 1) := by decide +kernel
theorem dX4_targetsBySpoons_2 : decode cX4_targetsBySpoons 2 = .ok (.aload_n 0, 1) := by decide +kernel
theorem dX4_targetsBySpoons_3 : decode cX4_targetsBySpoons 3 = .ok (.getfield 11, 3) := by decide +kernel
theorem dX4_targetsBySpoons_6 : decode cX4_targetsBySpoons 6 = .ok (.astore_n 3, 1) := by decide +kernel
theorem dX4_targetsBySpoons_7 : decode cX4_targetsBySpoons 7 = .ok (.aload_n 3, 1) := by decide +kernel
theorem dX4_targetsBySpoons_8 : decode cX4_targetsBySpoons 8 = .ok (.arraylength, 1) := by decide +kernel
theorem dX4_targetsBySpoons_9 : decode cX4_targetsBySpoons 9 = .ok (.istore 4, 2) := by decide +kernel
theorem dX4_targetsBySpoons_11 : decode cX4_targetsBySpoons 11 = .ok (.iconst 0, 1) := by decide +kernel
theorem dX4_targetsBySpoons_12 : decode cX4_targetsBySpoons 12 = .ok (.istore 5, 2) := by decide +kernel
theorem dX4_targetsBySpoons_14 : decode cX4_targetsBySpoons 14 = .ok (.iload 5, 2) := by decide +kernel
theorem dX4_targetsBySpoons_16 : decode cX4_targetsBySpoons 16 = .ok (.iload 4, 2) := by decide +kernel
theorem dX4_targetsBySpoons_18 : decode cX4_targetsBySpoons 18 = .ok (.if_icmp .ge 49, 3) := by decide +kernel
theorem dX4_targetsBySpoons_21 : decode cX4_targetsBySpoons 21 = .ok (.aload_n 3, 1) := by decide +kernel
theorem dX4_targetsBySpoons_22 : decode cX4_targetsBySpoons 22 = .ok (.iload 5, 2) := by decide +kernel
theorem dX4_targetsBySpoons_24 : decode cX4_targetsBySpoons 24 = .ok (.aaload, 1) := by decide +kernel
theorem dX4_targetsBySpoons_25 : decode cX4_targetsBySpoons 25 = .ok (.astore 6, 2) := by decide +kernel
theorem dX4_targetsBySpoons_27 : decode cX4_targetsBySpoons 27 = .ok (.aload 6, 2) := by decide +kernel
theorem dX4_targetsBySpoons_29 : decode cX4_targetsBySpoons 29 = .ok (.iconst 1, 1) := by decide +kernel
theorem dX4_targetsBySpoons_30 : decode cX4_targetsBySpoons 30 = .ok (.aload_n 1, 1) := by decide +kernel
theorem dX4_targetsBySpoons_31 : decode cX4_targetsBySpoons 31 = .ok (.getfield 89, 3) := by decide +kernel
theorem dX4_targetsBySpoons_34 : decode cX4_targetsBySpoons 34 = .ok (.isub, 1) := by decide +kernel
theorem dX4_targetsBySpoons_35 : decode cX4_targetsBySpoons 35 = .ok (.invokevirtual 92, 3) := by decide +kernel
theorem dX4_targetsBySpoons_38 : decode cX4_targetsBySpoons 38 = .ok (.ifCond .eq 23, 3) := by decide +kernel
theorem dX4_targetsBySpoons_41 : decode cX4_targetsBySpoons 41 = .ok (.aload_n 1, 1) := by decide +kernel
theorem dX4_targetsBySpoons_42 : decode cX4_targetsBySpoons 42 = .ok (.aload 6, 2) := by decide +kernel
theorem dX4_targetsBySpoons_44 : decode cX4_targetsBySpoons 44 = .ok (.getfield 96, 3) := by decide +kernel
theorem dX4_targetsBySpoons_47 : decode cX4_targetsBySpoons 47 = .ok (.aload 6, 2) := by decide +kernel
theorem dX4_targetsBySpoons_49 : decode cX4_targetsBySpoons 49 = .ok (.getfield 99, 3) := by decide +kernel
theorem dX4_targetsBySpoons_52 : decode cX4_targetsBySpoons 52 = .ok (.invokevirtual 102, 3) := by decide +kernel
theorem dX4_targetsBySpoons_55 : decode cX4_targetsBySpoons 55 = .ok (.ifCond .eq 6, 3) := by decide +kernel
theorem dX4_targetsBySpoons_58 : decode cX4_targetsBySpoons 58 = .ok (.iinc 2 1, 3) := by decide +kernel
theorem dX4_targetsBySpoons_61 : decode cX4_targetsBySpoons 61 = .ok (.iinc 5 1, 3) := by decide +kernel
theorem dX4_targetsBySpoons_64 : decode cX4_targetsBySpoons 64 = .ok (.goto (-50), 3) := by decide +kernel
theorem dX4_targetsBySpoons_67 : decode cX4_targetsBySpoons 67 = .ok (.iload_n 2, 1) := by decide +kernel
theorem dX4_targetsBySpoons_68 : decode cX4_targetsBySpoons 68 = .ok (.ireturn, 1) := by decide +kernel
theorem dX4_targetsByCells_0 : decode cX4_targetsByCells 0 = .ok (.iconst 0, 1) := by decide +kernel
theorem dX4_targetsByCells_1 : decode cX4_targetsByCells 1 = .ok (.istore_n 2, 1) := by decide +kernel
theorem dX4_targetsByCells_2 : decode cX4_targetsByCells 2 = .ok (.iconst 0, 1) := by decide +kernel
theorem dX4_targetsByCells_3 : decode cX4_targetsByCells 3 = .ok (.istore_n 3, 1) := by decide +kernel
theorem dX4_targetsByCells_4 : decode cX4_targetsByCells 4 = .ok (.iload_n 3, 1) := by decide +kernel
theorem dX4_targetsByCells_5 : decode cX4_targetsByCells 5 = .ok (.bipush 10, 2) := by decide +kernel
theorem dX4_targetsByCells_7 : decode cX4_targetsByCells 7 = .ok (.if_icmp .ge 49, 3) := by decide +kernel
theorem dX4_targetsByCells_10 : decode cX4_targetsByCells 10 = .ok (.iconst 0, 1) := by decide +kernel
theorem dX4_targetsByCells_11 : decode cX4_targetsByCells 11 = .ok (.istore 4, 2) := by decide +kernel
theorem dX4_targetsByCells_13 : decode cX4_targetsByCells 13 = .ok (.iload 4, 2) := by decide +kernel
theorem dX4_targetsByCells_15 : decode cX4_targetsByCells 15 = .ok (.bipush 10, 2) := by decide +kernel
theorem dX4_targetsByCells_17 : decode cX4_targetsByCells 17 = .ok (.if_icmp .ge 33, 3) := by decide +kernel
theorem dX4_targetsByCells_20 : decode cX4_targetsByCells 20 = .ok (.aload_n 1, 1) := by decide +kernel
theorem dX4_targetsByCells_21 : decode cX4_targetsByCells 21 = .ok (.iload 4, 2) := by decide +kernel
theorem dX4_targetsByCells_23 : decode cX4_targetsByCells 23 = .ok (.iload_n 3, 1) := by decide +kernel
theorem dX4_targetsByCells_24 : decode cX4_targetsByCells 24 = .ok (.invokevirtual 102, 3) := by decide +kernel
theorem dX4_targetsByCells_27 : decode cX4_targetsByCells 27 = .ok (.ifCond .eq 17, 3) := by decide +kernel
theorem dX4_targetsByCells_30 : decode cX4_targetsByCells 30 = .ok (.aload_n 0, 1) := by decide +kernel
theorem dX4_targetsByCells_31 : decode cX4_targetsByCells 31 = .ok (.aload_n 1, 1) := by decide +kernel
theorem dX4_targetsByCells_32 : decode cX4_targetsByCells 32 = .ok (.iload 4, 2) := by decide +kernel
theorem dX4_targetsByCells_34 : decode cX4_targetsByCells 34 = .ok (.iload_n 3, 1) := by decide +kernel
theorem dX4_targetsByCells_35 : decode cX4_targetsByCells 35 = .ok (.invokevirtual 105, 3) := by decide +kernel
theorem dX4_targetsByCells_38 : decode cX4_targetsByCells 38 = .ok (.ifCond .eq 6, 3) := by decide +kernel
theorem dX4_targetsByCells_41 : decode cX4_targetsByCells 41 = .ok (.iinc 2 1, 3) := by decide +kernel
theorem dX4_targetsByCells_44 : decode cX4_targetsByCells 44 = .ok (.iinc 4 1, 3) := by decide +kernel
theorem dX4_targetsByCells_47 : decode cX4_targetsByCells 47 = .ok (.goto (-34), 3) := by decide +kernel
theorem dX4_targetsByCells_50 : decode cX4_targetsByCells 50 = .ok (.iinc 3 1, 3) := by decide +kernel
theorem dX4_targetsByCells_53 : decode cX4_targetsByCells 53 = .ok (.goto (-49), 3) := by decide +kernel
theorem dX4_targetsByCells_56 : decode cX4_targetsByCells 56 = .ok (.iload_n 2, 1) := by decide +kernel
theorem dX4_targetsByCells_57 : decode cX4_targetsByCells 57 = .ok (.ireturn, 1) := by decide +kernel
theorem dX4_isHeldAgainst_0 : decode cX4_isHeldAgainst 0 = .ok (.aload_n 0, 1) := by decide +kernel
theorem dX4_isHeldAgainst_1 : decode cX4_isHeldAgainst 1 = .ok (.iload_n 2, 1) := by decide +kernel
theorem dX4_isHeldAgainst_2 : decode cX4_isHeldAgainst 2 = .ok (.iload_n 3, 1) := by decide +kernel
theorem dX4_isHeldAgainst_3 : decode cX4_isHeldAgainst 3 = .ok (.invokevirtual 109, 3) := by decide +kernel
theorem dX4_isHeldAgainst_6 : decode cX4_isHeldAgainst 6 = .ok (.astore 4, 2) := by decide +kernel
theorem dX4_isHeldAgainst_8 : decode cX4_isHeldAgainst 8 = .ok (.aload 4, 2) := by decide +kernel
theorem dX4_isHeldAgainst_10 : decode cX4_isHeldAgainst 10 = .ok (.ifnull 19, 3) := by decide +kernel
theorem dX4_isHeldAgainst_13 : decode cX4_isHeldAgainst 13 = .ok (.aload 4, 2) := by decide +kernel
theorem dX4_isHeldAgainst_15 : decode cX4_isHeldAgainst 15 = .ok (.getfield 89, 3) := by decide +kernel
theorem dX4_isHeldAgainst_18 : decode cX4_isHeldAgainst 18 = .ok (.aload_n 1, 1) := by decide +kernel
theorem dX4_isHeldAgainst_19 : decode cX4_isHeldAgainst 19 = .ok (.getfield 89, 3) := by decide +kernel
theorem dX4_isHeldAgainst_22 : decode cX4_isHeldAgainst 22 = .ok (.if_icmp .eq 7, 3) := by decide +kernel
theorem dX4_isHeldAgainst_25 : decode cX4_isHeldAgainst 25 = .ok (.iconst 1, 1) := by decide +kernel
theorem dX4_isHeldAgainst_26 : decode cX4_isHeldAgainst 26 = .ok (.goto 4, 3) := by decide +kernel
theorem dX4_isHeldAgainst_29 : decode cX4_isHeldAgainst 29 = .ok (.iconst 0, 1) := by decide +kernel
theorem dX4_isHeldAgainst_30 : decode cX4_isHeldAgainst 30 = .ok (.ireturn, 1) := by decide +kernel
theorem dX4_freeAhead_0 : decode cX4_freeAhead 0 = .ok (.aload_n 1, 1) := by decide +kernel
theorem dX4_freeAhead_1 : decode cX4_freeAhead 1 = .ok (.getfield 113, 3) := by decide +kernel
theorem dX4_freeAhead_4 : decode cX4_freeAhead 4 = .ok (.invokestatic 116, 3) := by decide +kernel
theorem dX4_freeAhead_7 : decode cX4_freeAhead 7 = .ok (.istore_n 2, 1) := by decide +kernel
theorem dX4_freeAhead_8 : decode cX4_freeAhead 8 = .ok (.aload_n 1, 1) := by decide +kernel
theorem dX4_freeAhead_9 : decode cX4_freeAhead 9 = .ok (.getfield 113, 3) := by decide +kernel
theorem dX4_freeAhead_12 : decode cX4_freeAhead 12 = .ok (.invokestatic 120, 3) := by decide +kernel
theorem dX4_freeAhead_15 : decode cX4_freeAhead 15 = .ok (.istore_n 3, 1) := by decide +kernel
theorem dX4_freeAhead_16 : decode cX4_freeAhead 16 = .ok (.iconst 0, 1) := by decide +kernel
theorem dX4_freeAhead_17 : decode cX4_freeAhead 17 = .ok (.istore 4, 2) := by decide +kernel
theorem dX4_freeAhead_19 : decode cX4_freeAhead 19 = .ok (.iload 4, 2) := by decide +kernel
theorem dX4_freeAhead_21 : decode cX4_freeAhead 21 = .ok (.bipush 10, 2) := by decide +kernel
theorem dX4_freeAhead_23 : decode cX4_freeAhead 23 = .ok (.if_icmp .ge 38, 3) := by decide +kernel
theorem dX4_freeAhead_26 : decode cX4_freeAhead 26 = .ok (.aload_n 0, 1) := by decide +kernel
theorem dX4_freeAhead_27 : decode cX4_freeAhead 27 = .ok (.aload_n 1, 1) := by decide +kernel
theorem dX4_freeAhead_28 : decode cX4_freeAhead 28 = .ok (.getfield 96, 3) := by decide +kernel
theorem dX4_freeAhead_31 : decode cX4_freeAhead 31 = .ok (.iload 4, 2) := by decide +kernel
theorem dX4_freeAhead_33 : decode cX4_freeAhead 33 = .ok (.iconst 1, 1) := by decide +kernel
theorem dX4_freeAhead_34 : decode cX4_freeAhead 34 = .ok (.iadd, 1) := by decide +kernel
theorem dX4_freeAhead_35 : decode cX4_freeAhead 35 = .ok (.iload_n 2, 1) := by decide +kernel
theorem dX4_freeAhead_36 : decode cX4_freeAhead 36 = .ok (.imul, 1) := by decide +kernel
theorem dX4_freeAhead_37 : decode cX4_freeAhead 37 = .ok (.iadd, 1) := by decide +kernel
theorem dX4_freeAhead_38 : decode cX4_freeAhead 38 = .ok (.aload_n 1, 1) := by decide +kernel
theorem dX4_freeAhead_39 : decode cX4_freeAhead 39 = .ok (.getfield 99, 3) := by decide +kernel
theorem dX4_freeAhead_42 : decode cX4_freeAhead 42 = .ok (.iload 4, 2) := by decide +kernel
theorem dX4_freeAhead_44 : decode cX4_freeAhead 44 = .ok (.iconst 1, 1) := by decide +kernel
theorem dX4_freeAhead_45 : decode cX4_freeAhead 45 = .ok (.iadd, 1) := by decide +kernel
theorem dX4_freeAhead_46 : decode cX4_freeAhead 46 = .ok (.iload_n 3, 1) := by decide +kernel
theorem dX4_freeAhead_47 : decode cX4_freeAhead 47 = .ok (.imul, 1) := by decide +kernel
theorem dX4_freeAhead_48 : decode cX4_freeAhead 48 = .ok (.iadd, 1) := by decide +kernel
theorem dX4_freeAhead_49 : decode cX4_freeAhead 49 = .ok (.invokevirtual 123, 3) := by decide +kernel
theorem dX4_freeAhead_52 : decode cX4_freeAhead 52 = .ok (.ifCond .eq 9, 3) := by decide +kernel
theorem dX4_freeAhead_55 : decode cX4_freeAhead 55 = .ok (.iinc 4 1, 3) := by decide +kernel
theorem dX4_freeAhead_58 : decode cX4_freeAhead 58 = .ok (.goto (-39), 3) := by decide +kernel
theorem dX4_freeAhead_61 : decode cX4_freeAhead 61 = .ok (.iload 4, 2) := by decide +kernel
theorem dX4_freeAhead_63 : decode cX4_freeAhead 63 = .ok (.ireturn, 1) := by decide +kernel
theorem dX4_isFree_0 : decode cX4_isFree 0 = .ok (.iload_n 1, 1) := by decide +kernel
theorem dX4_isFree_1 : decode cX4_isFree 1 = .ok (.iload_n 2, 1) := by decide +kernel
theorem dX4_isFree_2 : decode cX4_isFree 2 = .ok (.invokestatic 126, 3) := by decide +kernel
theorem dX4_isFree_5 : decode cX4_isFree 5 = .ok (.ifCond .eq 16, 3) := by decide +kernel
theorem dX4_isFree_8 : decode cX4_isFree 8 = .ok (.aload_n 0, 1) := by decide +kernel
theorem dX4_isFree_9 : decode cX4_isFree 9 = .ok (.iload_n 1, 1) := by decide +kernel
theorem dX4_isFree_10 : decode cX4_isFree 10 = .ok (.iload_n 2, 1) := by decide +kernel
theorem dX4_isFree_11 : decode cX4_isFree 11 = .ok (.invokevirtual 109, 3) := by decide +kernel
theorem dX4_isFree_14 : decode cX4_isFree 14 = .ok (.ifnonnull 7, 3) := by decide +kernel
theorem dX4_isFree_17 : decode cX4_isFree 17 = .ok (.iconst 1, 1) := by decide +kernel
theorem dX4_isFree_18 : decode cX4_isFree 18 = .ok (.goto 4, 3) := by decide +kernel
theorem dX4_isFree_21 : decode cX4_isFree 21 = .ok (.iconst 0, 1) := by decide +kernel
theorem dX4_isFree_22 : decode cX4_isFree 22 = .ok (.ireturn, 1) := by decide +kernel
theorem dX4_cubesBySpoons_0 : decode cX4_cubesBySpoons 0 = .ok (.iconst 0, 1) := by decide +kernel
theorem dX4_cubesBySpoons_1 : decode cX4_cubesBySpoons 1 = .ok (.istore_n 2, 1) := by decide +kernel
theorem dX4_cubesBySpoons_2 : decode cX4_cubesBySpoons 2 = .ok (.aload_n 0, 1) := by decide +kernel
theorem dX4_cubesBySpoons_3 : decode cX4_cubesBySpoons 3 = .ok (.getfield 11, 3) := by decide +kernel
theorem dX4_cubesBySpoons_6 : decode cX4_cubesBySpoons 6 = .ok (.astore_n 3, 1) := by decide +kernel
theorem dX4_cubesBySpoons_7 : decode cX4_cubesBySpoons 7 = .ok (.aload_n 3, 1) := by decide +kernel
theorem dX4_cubesBySpoons_8 : decode cX4_cubesBySpoons 8 = .ok (.arraylength, 1) := by decide +kernel
theorem dX4_cubesBySpoons_9 : decode cX4_cubesBySpoons 9 = .ok (.istore 4, 2) := by decide +kernel
theorem dX4_cubesBySpoons_11 : decode cX4_cubesBySpoons 11 = .ok (.iconst 0, 1) := by decide +kernel
theorem dX4_cubesBySpoons_12 : decode cX4_cubesBySpoons 12 = .ok (.istore 5, 2) := by decide +kernel
theorem dX4_cubesBySpoons_14 : decode cX4_cubesBySpoons 14 = .ok (.iload 5, 2) := by decide +kernel
theorem dX4_cubesBySpoons_16 : decode cX4_cubesBySpoons 16 = .ok (.iload 4, 2) := by decide +kernel
theorem dX4_cubesBySpoons_18 : decode cX4_cubesBySpoons 18 = .ok (.if_icmp .ge 32, 3) := by decide +kernel
theorem dX4_cubesBySpoons_21 : decode cX4_cubesBySpoons 21 = .ok (.aload_n 3, 1) := by decide +kernel
theorem dX4_cubesBySpoons_22 : decode cX4_cubesBySpoons 22 = .ok (.iload 5, 2) := by decide +kernel
theorem dX4_cubesBySpoons_24 : decode cX4_cubesBySpoons 24 = .ok (.aaload, 1) := by decide +kernel
theorem dX4_cubesBySpoons_25 : decode cX4_cubesBySpoons 25 = .ok (.astore 6, 2) := by decide +kernel
theorem dX4_cubesBySpoons_27 : decode cX4_cubesBySpoons 27 = .ok (.aload 6, 2) := by decide +kernel
theorem dX4_cubesBySpoons_29 : decode cX4_cubesBySpoons 29 = .ok (.iload_n 1, 1) := by decide +kernel
theorem dX4_cubesBySpoons_30 : decode cX4_cubesBySpoons 30 = .ok (.invokevirtual 92, 3) := by decide +kernel
theorem dX4_cubesBySpoons_33 : decode cX4_cubesBySpoons 33 = .ok (.ifCond .eq 11, 3) := by decide +kernel
theorem dX4_cubesBySpoons_36 : decode cX4_cubesBySpoons 36 = .ok (.iload_n 2, 1) := by decide +kernel
theorem dX4_cubesBySpoons_37 : decode cX4_cubesBySpoons 37 = .ok (.aload 6, 2) := by decide +kernel
theorem dX4_cubesBySpoons_39 : decode cX4_cubesBySpoons 39 = .ok (.getfield 129, 3) := by decide +kernel
theorem dX4_cubesBySpoons_42 : decode cX4_cubesBySpoons 42 = .ok (.iadd, 1) := by decide +kernel
theorem dX4_cubesBySpoons_43 : decode cX4_cubesBySpoons 43 = .ok (.istore_n 2, 1) := by decide +kernel
theorem dX4_cubesBySpoons_44 : decode cX4_cubesBySpoons 44 = .ok (.iinc 5 1, 3) := by decide +kernel
theorem dX4_cubesBySpoons_47 : decode cX4_cubesBySpoons 47 = .ok (.goto (-33), 3) := by decide +kernel
theorem dX4_cubesBySpoons_50 : decode cX4_cubesBySpoons 50 = .ok (.iload_n 2, 1) := by decide +kernel
theorem dX4_cubesBySpoons_51 : decode cX4_cubesBySpoons 51 = .ok (.ireturn, 1) := by decide +kernel
theorem dX4_areTargetsEqual_0 : decode cX4_areTargetsEqual 0 = .ok (.aload_n 0, 1) := by decide +kernel
theorem dX4_areTargetsEqual_1 : decode cX4_areTargetsEqual 1 = .ok (.getfield 11, 3) := by decide +kernel
theorem dX4_areTargetsEqual_4 : decode cX4_areTargetsEqual 4 = .ok (.astore_n 1, 1) := by decide +kernel
theorem dX4_areTargetsEqual_5 : decode cX4_areTargetsEqual 5 = .ok (.aload_n 1, 1) := by decide +kernel
theorem dX4_areTargetsEqual_6 : decode cX4_areTargetsEqual 6 = .ok (.arraylength, 1) := by decide +kernel
theorem dX4_areTargetsEqual_7 : decode cX4_areTargetsEqual 7 = .ok (.istore_n 2, 1) := by decide +kernel
theorem dX4_areTargetsEqual_8 : decode cX4_areTargetsEqual 8 = .ok (.iconst 0, 1) := by decide +kernel
theorem dX4_areTargetsEqual_9 : decode cX4_areTargetsEqual 9 = .ok (.istore_n 3, 1) := by decide +kernel
theorem dX4_areTargetsEqual_10 : decode cX4_areTargetsEqual 10 = .ok (.iload_n 3, 1) := by decide +kernel
theorem dX4_areTargetsEqual_11 : decode cX4_areTargetsEqual 11 = .ok (.iload_n 2, 1) := by decide +kernel
theorem dX4_areTargetsEqual_12 : decode cX4_areTargetsEqual 12 = .ok (.if_icmp .ge 31, 3) := by decide +kernel
theorem dX4_areTargetsEqual_15 : decode cX4_areTargetsEqual 15 = .ok (.aload_n 1, 1) := by decide +kernel
theorem dX4_areTargetsEqual_16 : decode cX4_areTargetsEqual 16 = .ok (.iload_n 3, 1) := by decide +kernel
theorem dX4_areTargetsEqual_17 : decode cX4_areTargetsEqual 17 = .ok (.aaload, 1) := by decide +kernel
theorem dX4_areTargetsEqual_18 : decode cX4_areTargetsEqual 18 = .ok (.astore 4, 2) := by decide +kernel
theorem dX4_areTargetsEqual_20 : decode cX4_areTargetsEqual 20 = .ok (.aload_n 0, 1) := by decide +kernel
theorem dX4_areTargetsEqual_21 : decode cX4_areTargetsEqual 21 = .ok (.aload 4, 2) := by decide +kernel
theorem dX4_areTargetsEqual_23 : decode cX4_areTargetsEqual 23 = .ok (.invokevirtual 132, 3) := by decide +kernel
theorem dX4_areTargetsEqual_26 : decode cX4_areTargetsEqual 26 = .ok (.aload_n 0, 1) := by decide +kernel
theorem dX4_areTargetsEqual_27 : decode cX4_areTargetsEqual 27 = .ok (.aload 4, 2) := by decide +kernel
theorem dX4_areTargetsEqual_29 : decode cX4_areTargetsEqual 29 = .ok (.invokevirtual 135, 3) := by decide +kernel
theorem dX4_areTargetsEqual_32 : decode cX4_areTargetsEqual 32 = .ok (.if_icmp .eq 5, 3) := by decide +kernel
theorem dX4_areTargetsEqual_35 : decode cX4_areTargetsEqual 35 = .ok (.iconst 0, 1) := by decide +kernel
theorem dX4_areTargetsEqual_36 : decode cX4_areTargetsEqual 36 = .ok (.ireturn, 1) := by decide +kernel
theorem dX4_areTargetsEqual_37 : decode cX4_areTargetsEqual 37 = .ok (.iinc 3 1, 3) := by decide +kernel
theorem dX4_areTargetsEqual_40 : decode cX4_areTargetsEqual 40 = .ok (.goto (-30), 3) := by decide +kernel
theorem dX4_areTargetsEqual_43 : decode cX4_areTargetsEqual 43 = .ok (.iconst 1, 1) := by decide +kernel
theorem dX4_areTargetsEqual_44 : decode cX4_areTargetsEqual 44 = .ok (.ireturn, 1) := by decide +kernel
theorem dX4_areCubesEqual_0 : decode cX4_areCubesEqual 0 = .ok (.aload_n 0, 1) := by decide +kernel
theorem dX4_areCubesEqual_1 : decode cX4_areCubesEqual 1 = .ok (.iconst 0, 1) := by decide +kernel
theorem dX4_areCubesEqual_2 : decode cX4_areCubesEqual 2 = .ok (.invokevirtual 138, 3) := by decide +kernel
theorem dX4_areCubesEqual_5 : decode cX4_areCubesEqual 5 = .ok (.aload_n 0, 1) := by decide +kernel
theorem dX4_areCubesEqual_6 : decode cX4_areCubesEqual 6 = .ok (.getfield 20, 3) := by decide +kernel
theorem dX4_areCubesEqual_9 : decode cX4_areCubesEqual 9 = .ok (.invokevirtual 141, 3) := by decide +kernel
theorem dX4_areCubesEqual_12 : decode cX4_areCubesEqual 12 = .ok (.if_icmp .ne 22, 3) := by decide +kernel
theorem dX4_areCubesEqual_15 : decode cX4_areCubesEqual 15 = .ok (.aload_n 0, 1) := by decide +kernel
theorem dX4_areCubesEqual_16 : decode cX4_areCubesEqual 16 = .ok (.iconst 1, 1) := by decide +kernel
theorem dX4_areCubesEqual_17 : decode cX4_areCubesEqual 17 = .ok (.invokevirtual 138, 3) := by decide +kernel
theorem dX4_areCubesEqual_20 : decode cX4_areCubesEqual 20 = .ok (.aload_n 0, 1) := by decide +kernel
theorem dX4_areCubesEqual_21 : decode cX4_areCubesEqual 21 = .ok (.getfield 24, 3) := by decide +kernel
theorem dX4_areCubesEqual_24 : decode cX4_areCubesEqual 24 = .ok (.invokevirtual 141, 3) := by decide +kernel
theorem dX4_areCubesEqual_27 : decode cX4_areCubesEqual 27 = .ok (.if_icmp .ne 7, 3) := by decide +kernel
theorem dX4_areCubesEqual_30 : decode cX4_areCubesEqual 30 = .ok (.iconst 1, 1) := by decide +kernel
theorem dX4_areCubesEqual_31 : decode cX4_areCubesEqual 31 = .ok (.goto 4, 3) := by decide +kernel
theorem dX4_areCubesEqual_34 : decode cX4_areCubesEqual 34 = .ok (.iconst 0, 1) := by decide +kernel
theorem dX4_areCubesEqual_35 : decode cX4_areCubesEqual 35 = .ok (.ireturn, 1) := by decide +kernel
theorem dX4_areCellsSingle_0 : decode cX4_areCellsSingle 0 = .ok (.aload_n 0, 1) := by decide +kernel
theorem dX4_areCellsSingle_1 : decode cX4_areCellsSingle 1 = .ok (.getfield 11, 3) := by decide +kernel
theorem dX4_areCellsSingle_4 : decode cX4_areCellsSingle 4 = .ok (.astore_n 1, 1) := by decide +kernel
theorem dX4_areCellsSingle_5 : decode cX4_areCellsSingle 5 = .ok (.aload_n 1, 1) := by decide +kernel
theorem dX4_areCellsSingle_6 : decode cX4_areCellsSingle 6 = .ok (.arraylength, 1) := by decide +kernel
theorem dX4_areCellsSingle_7 : decode cX4_areCellsSingle 7 = .ok (.istore_n 2, 1) := by decide +kernel
theorem dX4_areCellsSingle_8 : decode cX4_areCellsSingle 8 = .ok (.iconst 0, 1) := by decide +kernel
theorem dX4_areCellsSingle_9 : decode cX4_areCellsSingle 9 = .ok (.istore_n 3, 1) := by decide +kernel
theorem dX4_areCellsSingle_10 : decode cX4_areCellsSingle 10 = .ok (.iload_n 3, 1) := by decide +kernel
theorem dX4_areCellsSingle_11 : decode cX4_areCellsSingle 11 = .ok (.iload_n 2, 1) := by decide +kernel
theorem dX4_areCellsSingle_12 : decode cX4_areCellsSingle 12 = .ok (.if_icmp .ge 58, 3) := by decide +kernel
theorem dX4_areCellsSingle_15 : decode cX4_areCellsSingle 15 = .ok (.aload_n 1, 1) := by decide +kernel
theorem dX4_areCellsSingle_16 : decode cX4_areCellsSingle 16 = .ok (.iload_n 3, 1) := by decide +kernel
theorem dX4_areCellsSingle_17 : decode cX4_areCellsSingle 17 = .ok (.aaload, 1) := by decide +kernel
theorem dX4_areCellsSingle_18 : decode cX4_areCellsSingle 18 = .ok (.astore 4, 2) := by decide +kernel
theorem dX4_areCellsSingle_20 : decode cX4_areCellsSingle 20 = .ok (.aload_n 0, 1) := by decide +kernel
theorem dX4_areCellsSingle_21 : decode cX4_areCellsSingle 21 = .ok (.aload 4, 2) := by decide +kernel
theorem dX4_areCellsSingle_23 : decode cX4_areCellsSingle 23 = .ok (.getfield 96, 3) := by decide +kernel
theorem dX4_areCellsSingle_26 : decode cX4_areCellsSingle 26 = .ok (.aload 4, 2) := by decide +kernel
theorem dX4_areCellsSingle_28 : decode cX4_areCellsSingle 28 = .ok (.getfield 99, 3) := by decide +kernel
theorem dX4_areCellsSingle_31 : decode cX4_areCellsSingle 31 = .ok (.invokevirtual 109, 3) := by decide +kernel
theorem dX4_areCellsSingle_34 : decode cX4_areCellsSingle 34 = .ok (.astore 5, 2) := by decide +kernel
theorem dX4_areCellsSingle_36 : decode cX4_areCellsSingle 36 = .ok (.aload 4, 2) := by decide +kernel
theorem dX4_areCellsSingle_38 : decode cX4_areCellsSingle 38 = .ok (.invokevirtual 74, 3) := by decide +kernel
theorem dX4_areCellsSingle_41 : decode cX4_areCellsSingle 41 = .ok (.ifCond .eq 23, 3) := by decide +kernel
theorem dX4_areCellsSingle_44 : decode cX4_areCellsSingle 44 = .ok (.aload 5, 2) := by decide +kernel
theorem dX4_areCellsSingle_46 : decode cX4_areCellsSingle 46 = .ok (.ifnull 18, 3) := by decide +kernel
theorem dX4_areCellsSingle_49 : decode cX4_areCellsSingle 49 = .ok (.aload 5, 2) := by decide +kernel
theorem dX4_areCellsSingle_51 : decode cX4_areCellsSingle 51 = .ok (.getfield 145, 3) := by decide +kernel
theorem dX4_areCellsSingle_54 : decode cX4_areCellsSingle 54 = .ok (.aload 4, 2) := by decide +kernel
theorem dX4_areCellsSingle_56 : decode cX4_areCellsSingle 56 = .ok (.getfield 145, 3) := by decide +kernel
theorem dX4_areCellsSingle_59 : decode cX4_areCellsSingle 59 = .ok (.if_icmp .eq 5, 3) := by decide +kernel
theorem dX4_areCellsSingle_62 : decode cX4_areCellsSingle 62 = .ok (.iconst 0, 1) := by decide +kernel
theorem dX4_areCellsSingle_63 : decode cX4_areCellsSingle 63 = .ok (.ireturn, 1) := by decide +kernel
theorem dX4_areCellsSingle_64 : decode cX4_areCellsSingle 64 = .ok (.iinc 3 1, 3) := by decide +kernel
theorem dX4_areCellsSingle_67 : decode cX4_areCellsSingle 67 = .ok (.goto (-57), 3) := by decide +kernel
theorem dX4_areCellsSingle_70 : decode cX4_areCellsSingle 70 = .ok (.iconst 1, 1) := by decide +kernel
theorem dX4_areCellsSingle_71 : decode cX4_areCellsSingle 71 = .ok (.ireturn, 1) := by decide +kernel
theorem dX4_place_0 : decode cX4_place 0 = .ok (.iload_n 1, 1) := by decide +kernel
theorem dX4_place_1 : decode cX4_place 1 = .ok (.invokestatic 148, 3) := by decide +kernel
theorem dX4_place_4 : decode cX4_place 4 = .ok (.ifCond .ne 5, 3) := by decide +kernel
theorem dX4_place_7 : decode cX4_place 7 = .ok (.iconst (-1), 1) := by decide +kernel
theorem dX4_place_8 : decode cX4_place 8 = .ok (.ireturn, 1) := by decide +kernel
theorem dX4_place_9 : decode cX4_place 9 = .ok (.iload_n 2, 1) := by decide +kernel
theorem dX4_place_10 : decode cX4_place 10 = .ok (.iload_n 3, 1) := by decide +kernel
theorem dX4_place_11 : decode cX4_place 11 = .ok (.invokestatic 126, 3) := by decide +kernel
theorem dX4_place_14 : decode cX4_place 14 = .ok (.ifCond .eq 19, 3) := by decide +kernel
theorem dX4_place_17 : decode cX4_place 17 = .ok (.iload 4, 2) := by decide +kernel
theorem dX4_place_19 : decode cX4_place 19 = .ok (.invokestatic 151, 3) := by decide +kernel
theorem dX4_place_22 : decode cX4_place 22 = .ok (.ifCond .eq 11, 3) := by decide +kernel
theorem dX4_place_25 : decode cX4_place 25 = .ok (.iload 5, 2) := by decide +kernel
theorem dX4_place_27 : decode cX4_place 27 = .ok (.invokestatic 154, 3) := by decide +kernel
theorem dX4_place_30 : decode cX4_place 30 = .ok (.ifCond .ne 6, 3) := by decide +kernel
theorem dX4_place_33 : decode cX4_place 33 = .ok (.bipush (-2), 2) := by decide +kernel
theorem dX4_place_35 : decode cX4_place 35 = .ok (.ireturn, 1) := by decide +kernel
theorem dX4_place_36 : decode cX4_place 36 = .ok (.aload_n 0, 1) := by decide +kernel
theorem dX4_place_37 : decode cX4_place 37 = .ok (.iload_n 1, 1) := by decide +kernel
theorem dX4_place_38 : decode cX4_place 38 = .ok (.invokevirtual 157, 3) := by decide +kernel
theorem dX4_place_41 : decode cX4_place 41 = .ok (.astore 6, 2) := by decide +kernel
theorem dX4_place_43 : decode cX4_place 43 = .ok (.aload_n 0, 1) := by decide +kernel
theorem dX4_place_44 : decode cX4_place 44 = .ok (.getfield 31, 3) := by decide +kernel
theorem dX4_place_47 : decode cX4_place 47 = .ok (.ifCond .ne 25, 3) := by decide +kernel
theorem dX4_place_50 : decode cX4_place 50 = .ok (.aload 6, 2) := by decide +kernel
theorem dX4_place_52 : decode cX4_place 52 = .ok (.getfield 161, 3) := by decide +kernel
theorem dX4_place_55 : decode cX4_place 55 = .ok (.bipush 6, 2) := by decide +kernel
theorem dX4_place_57 : decode cX4_place 57 = .ok (.if_icmp .ge 15, 3) := by decide +kernel
theorem dX4_place_60 : decode cX4_place 60 = .ok (.aload_n 0, 1) := by decide +kernel
theorem dX4_place_61 : decode cX4_place 61 = .ok (.getfield 27, 3) := by decide +kernel
theorem dX4_place_64 : decode cX4_place 64 = .ok (.aload_n 0, 1) := by decide +kernel
theorem dX4_place_65 : decode cX4_place 65 = .ok (.getfield 11, 3) := by decide +kernel
theorem dX4_place_68 : decode cX4_place 68 = .ok (.arraylength, 1) := by decide +kernel
theorem dX4_place_69 : decode cX4_place 69 = .ok (.if_icmp .lt 6, 3) := by decide +kernel
theorem dX4_place_72 : decode cX4_place 72 = .ok (.bipush (-3), 2) := by decide +kernel
theorem dX4_place_74 : decode cX4_place 74 = .ok (.ireturn, 1) := by decide +kernel
theorem dX4_place_75 : decode cX4_place 75 = .ok (.aload_n 0, 1) := by decide +kernel
theorem dX4_place_76 : decode cX4_place 76 = .ok (.iload_n 2, 1) := by decide +kernel
theorem dX4_place_77 : decode cX4_place 77 = .ok (.iload_n 3, 1) := by decide +kernel
theorem dX4_place_78 : decode cX4_place 78 = .ok (.invokevirtual 109, 3) := by decide +kernel
theorem dX4_place_81 : decode cX4_place 81 = .ok (.ifnull 6, 3) := by decide +kernel
theorem dX4_place_84 : decode cX4_place 84 = .ok (.bipush (-4), 2) := by decide +kernel
theorem dX4_place_86 : decode cX4_place 86 = .ok (.ireturn, 1) := by decide +kernel
theorem dX4_place_87 : decode cX4_place 87 = .ok (.aload_n 0, 1) := by decide +kernel
theorem dX4_place_88 : decode cX4_place 88 = .ok (.getfield 11, 3) := by decide +kernel
theorem dX4_place_91 : decode cX4_place 91 = .ok (.aload_n 0, 1) := by decide +kernel
theorem dX4_place_92 : decode cX4_place 92 = .ok (.getfield 27, 3) := by decide +kernel
theorem dX4_place_95 : decode cX4_place 95 = .ok (.aaload, 1) := by decide +kernel
theorem dX4_place_96 : decode cX4_place 96 = .ok (.astore 7, 2) := by decide +kernel
theorem dX4_place_98 : decode cX4_place 98 = .ok (.aload 7, 2) := by decide +kernel
theorem dX4_place_100 : decode cX4_place 100 = .ok (.iload_n 1, 1) := by decide +kernel
theorem dX4_place_101 : decode cX4_place 101 = .ok (.putfield 89, 3) := by decide +kernel
theorem dX4_place_104 : decode cX4_place 104 = .ok (.aload 7, 2) := by decide +kernel
theorem dX4_place_106 : decode cX4_place 106 = .ok (.iload_n 2, 1) := by decide +kernel
theorem dX4_place_107 : decode cX4_place 107 = .ok (.putfield 96, 3) := by decide +kernel
theorem dX4_place_110 : decode cX4_place 110 = .ok (.aload 7, 2) := by decide +kernel
theorem dX4_place_112 : decode cX4_place 112 = .ok (.iload_n 3, 1) := by decide +kernel
theorem dX4_place_113 : decode cX4_place 113 = .ok (.putfield 99, 3) := by decide +kernel
theorem dX4_place_116 : decode cX4_place 116 = .ok (.aload 7, 2) := by decide +kernel
theorem dX4_place_118 : decode cX4_place 118 = .ok (.iload 4, 2) := by decide +kernel
theorem dX4_place_120 : decode cX4_place 120 = .ok (.putfield 113, 3) := by decide +kernel
theorem dX4_place_123 : decode cX4_place 123 = .ok (.aload 7, 2) := by decide +kernel
theorem dX4_place_125 : decode cX4_place 125 = .ok (.iconst 2, 1) := by decide +kernel
theorem dX4_place_126 : decode cX4_place 126 = .ok (.putfield 163, 3) := by decide +kernel
theorem dX4_place_129 : decode cX4_place 129 = .ok (.aload 7, 2) := by decide +kernel
theorem dX4_place_131 : decode cX4_place 131 = .ok (.iload 5, 2) := by decide +kernel
theorem dX4_place_133 : decode cX4_place 133 = .ok (.putfield 129, 3) := by decide +kernel
theorem dX4_place_136 : decode cX4_place 136 = .ok (.aload 7, 2) := by decide +kernel
theorem dX4_place_138 : decode cX4_place 138 = .ok (.invokevirtual 166, 3) := by decide +kernel
theorem dX4_place_141 : decode cX4_place 141 = .ok (.aload 6, 2) := by decide +kernel
theorem dX4_place_143 : decode cX4_place 143 = .ok (.dup, 1) := by decide +kernel
theorem dX4_place_144 : decode cX4_place 144 = .ok (.getfield 161, 3) := by decide +kernel
theorem dX4_place_147 : decode cX4_place 147 = .ok (.iconst 1, 1) := by decide +kernel
theorem dX4_place_148 : decode cX4_place 148 = .ok (.iadd, 1) := by decide +kernel
theorem dX4_place_149 : decode cX4_place 149 = .ok (.putfield 161, 3) := by decide +kernel
theorem dX4_place_152 : decode cX4_place 152 = .ok (.aload 6, 2) := by decide +kernel
theorem dX4_place_154 : decode cX4_place 154 = .ok (.dup, 1) := by decide +kernel
theorem dX4_place_155 : decode cX4_place 155 = .ok (.getfield 67, 3) := by decide +kernel
theorem dX4_place_158 : decode cX4_place 158 = .ok (.iconst 1, 1) := by decide +kernel
theorem dX4_place_159 : decode cX4_place 159 = .ok (.iadd, 1) := by decide +kernel
theorem dX4_place_160 : decode cX4_place 160 = .ok (.putfield 67, 3) := by decide +kernel
theorem dX4_place_163 : decode cX4_place 163 = .ok (.aload 6, 2) := by decide +kernel
theorem dX4_place_165 : decode cX4_place 165 = .ok (.dup, 1) := by decide +kernel
theorem dX4_place_166 : decode cX4_place 166 = .ok (.getfield 169, 3) := by decide +kernel
theorem dX4_place_169 : decode cX4_place 169 = .ok (.iload 5, 2) := by decide +kernel
theorem dX4_place_171 : decode cX4_place 171 = .ok (.iadd, 1) := by decide +kernel
theorem dX4_place_172 : decode cX4_place 172 = .ok (.putfield 169, 3) := by decide +kernel
theorem dX4_place_175 : decode cX4_place 175 = .ok (.aload_n 0, 1) := by decide +kernel
theorem dX4_place_176 : decode cX4_place 176 = .ok (.dup, 1) := by decide +kernel
theorem dX4_place_177 : decode cX4_place 177 = .ok (.getfield 27, 3) := by decide +kernel
theorem dX4_place_180 : decode cX4_place 180 = .ok (.iconst 1, 1) := by decide +kernel
theorem dX4_place_181 : decode cX4_place 181 = .ok (.iadd, 1) := by decide +kernel
theorem dX4_place_182 : decode cX4_place 182 = .ok (.putfield 27, 3) := by decide +kernel
theorem dX4_place_185 : decode cX4_place 185 = .ok (.aload 7, 2) := by decide +kernel
theorem dX4_place_187 : decode cX4_place 187 = .ok (.getfield 145, 3) := by decide +kernel
theorem dX4_place_190 : decode cX4_place 190 = .ok (.ireturn, 1) := by decide +kernel
theorem dX4_begin_0 : decode cX4_begin 0 = .ok (.aload_n 0, 1) := by decide +kernel
theorem dX4_begin_1 : decode cX4_begin 1 = .ok (.getfield 31, 3) := by decide +kernel
theorem dX4_begin_4 : decode cX4_begin 4 = .ok (.ifCond .ne 23, 3) := by decide +kernel
theorem dX4_begin_7 : decode cX4_begin 7 = .ok (.aload_n 0, 1) := by decide +kernel
theorem dX4_begin_8 : decode cX4_begin 8 = .ok (.getfield 20, 3) := by decide +kernel
theorem dX4_begin_11 : decode cX4_begin 11 = .ok (.getfield 161, 3) := by decide +kernel
theorem dX4_begin_14 : decode cX4_begin 14 = .ok (.ifCond .eq 13, 3) := by decide +kernel
theorem dX4_begin_17 : decode cX4_begin 17 = .ok (.aload_n 0, 1) := by decide +kernel
theorem dX4_begin_18 : decode cX4_begin 18 = .ok (.getfield 24, 3) := by decide +kernel
theorem dX4_begin_21 : decode cX4_begin 21 = .ok (.getfield 161, 3) := by decide +kernel
theorem dX4_begin_24 : decode cX4_begin 24 = .ok (.ifCond .ne 6, 3) := by decide +kernel
theorem dX4_begin_27 : decode cX4_begin 27 = .ok (.bipush (-3), 2) := by decide +kernel
theorem dX4_begin_29 : decode cX4_begin 29 = .ok (.ireturn, 1) := by decide +kernel
theorem dX4_begin_30 : decode cX4_begin 30 = .ok (.aload_n 0, 1) := by decide +kernel
theorem dX4_begin_31 : decode cX4_begin 31 = .ok (.iconst 1, 1) := by decide +kernel
theorem dX4_begin_32 : decode cX4_begin 32 = .ok (.putfield 31, 3) := by decide +kernel
theorem dX4_begin_35 : decode cX4_begin 35 = .ok (.aload_n 0, 1) := by decide +kernel
theorem dX4_begin_36 : decode cX4_begin 36 = .ok (.iconst 0, 1) := by decide +kernel
theorem dX4_begin_37 : decode cX4_begin 37 = .ok (.putfield 35, 3) := by decide +kernel
theorem dX4_begin_40 : decode cX4_begin 40 = .ok (.aload_n 0, 1) := by decide +kernel
theorem dX4_begin_41 : decode cX4_begin 41 = .ok (.iconst 3, 1) := by decide +kernel
theorem dX4_begin_42 : decode cX4_begin 42 = .ok (.putfield 38, 3) := by decide +kernel
theorem dX4_begin_45 : decode cX4_begin 45 = .ok (.aload_n 0, 1) := by decide +kernel
theorem dX4_begin_46 : decode cX4_begin 46 = .ok (.getfield 27, 3) := by decide +kernel
theorem dX4_begin_49 : decode cX4_begin 49 = .ok (.ireturn, 1) := by decide +kernel
theorem dX4_passTurn_0 : decode cX4_passTurn 0 = .ok (.aload_n 0, 1) := by decide +kernel
theorem dX4_passTurn_1 : decode cX4_passTurn 1 = .ok (.invokevirtual 172, 3) := by decide +kernel
theorem dX4_passTurn_4 : decode cX4_passTurn 4 = .ok (.ifCond .ne 6, 3) := by decide +kernel
theorem dX4_passTurn_7 : decode cX4_passTurn 7 = .ok (.bipush (-3), 2) := by decide +kernel
theorem dX4_passTurn_9 : decode cX4_passTurn 9 = .ok (.ireturn, 1) := by decide +kernel
theorem dX4_passTurn_10 : decode cX4_passTurn 10 = .ok (.aload_n 0, 1) := by decide +kernel
theorem dX4_passTurn_11 : decode cX4_passTurn 11 = .ok (.iconst 1, 1) := by decide +kernel
theorem dX4_passTurn_12 : decode cX4_passTurn 12 = .ok (.aload_n 0, 1) := by decide +kernel
theorem dX4_passTurn_13 : decode cX4_passTurn 13 = .ok (.getfield 35, 3) := by decide +kernel
theorem dX4_passTurn_16 : decode cX4_passTurn 16 = .ok (.isub, 1) := by decide +kernel
theorem dX4_passTurn_17 : decode cX4_passTurn 17 = .ok (.putfield 35, 3) := by decide +kernel
theorem dX4_passTurn_20 : decode cX4_passTurn 20 = .ok (.aload_n 0, 1) := by decide +kernel
theorem dX4_passTurn_21 : decode cX4_passTurn 21 = .ok (.iconst 3, 1) := by decide +kernel
theorem dX4_passTurn_22 : decode cX4_passTurn 22 = .ok (.putfield 38, 3) := by decide +kernel
theorem dX4_passTurn_25 : decode cX4_passTurn 25 = .ok (.aload_n 0, 1) := by decide +kernel
theorem dX4_passTurn_26 : decode cX4_passTurn 26 = .ok (.dup, 1) := by decide +kernel
theorem dX4_passTurn_27 : decode cX4_passTurn 27 = .ok (.getfield 41, 3) := by decide +kernel
theorem dX4_passTurn_30 : decode cX4_passTurn 30 = .ok (.iconst 1, 1) := by decide +kernel
theorem dX4_passTurn_31 : decode cX4_passTurn 31 = .ok (.iadd, 1) := by decide +kernel
theorem dX4_passTurn_32 : decode cX4_passTurn 32 = .ok (.putfield 41, 3) := by decide +kernel
theorem dX4_passTurn_35 : decode cX4_passTurn 35 = .ok (.aload_n 0, 1) := by decide +kernel
theorem dX4_passTurn_36 : decode cX4_passTurn 36 = .ok (.getfield 35, 3) := by decide +kernel
theorem dX4_passTurn_39 : decode cX4_passTurn 39 = .ok (.ireturn, 1) := by decide +kernel
theorem dX4_rotate_0 : decode cX4_rotate 0 = .ok (.aload_n 0, 1) := by decide +kernel
theorem dX4_rotate_1 : decode cX4_rotate 1 = .ok (.iload_n 1, 1) := by decide +kernel
theorem dX4_rotate_2 : decode cX4_rotate 2 = .ok (.invokevirtual 175, 3) := by decide +kernel
theorem dX4_rotate_5 : decode cX4_rotate 5 = .ok (.astore_n 3, 1) := by decide +kernel
theorem dX4_rotate_6 : decode cX4_rotate 6 = .ok (.aload_n 3, 1) := by decide +kernel
theorem dX4_rotate_7 : decode cX4_rotate 7 = .ok (.ifnonnull 5, 3) := by decide +kernel
theorem dX4_rotate_10 : decode cX4_rotate 10 = .ok (.iconst (-1), 1) := by decide +kernel
theorem dX4_rotate_11 : decode cX4_rotate 11 = .ok (.ireturn, 1) := by decide +kernel
theorem dX4_rotate_12 : decode cX4_rotate 12 = .ok (.aload_n 0, 1) := by decide +kernel
theorem dX4_rotate_13 : decode cX4_rotate 13 = .ok (.aload_n 3, 1) := by decide +kernel
theorem dX4_rotate_14 : decode cX4_rotate 14 = .ok (.iload_n 2, 1) := by decide +kernel
theorem dX4_rotate_15 : decode cX4_rotate 15 = .ok (.invokestatic 151, 3) := by decide +kernel
theorem dX4_rotate_18 : decode cX4_rotate 18 = .ok (.invokevirtual 179, 3) := by decide +kernel
theorem dX4_rotate_21 : decode cX4_rotate 21 = .ok (.istore 4, 2) := by decide +kernel
theorem dX4_rotate_23 : decode cX4_rotate 23 = .ok (.iload 4, 2) := by decide +kernel
theorem dX4_rotate_25 : decode cX4_rotate 25 = .ok (.ifCond .eq 6, 3) := by decide +kernel
theorem dX4_rotate_28 : decode cX4_rotate 28 = .ok (.iload 4, 2) := by decide +kernel
theorem dX4_rotate_30 : decode cX4_rotate 30 = .ok (.ireturn, 1) := by decide +kernel
theorem dX4_rotate_31 : decode cX4_rotate 31 = .ok (.aload_n 3, 1) := by decide +kernel
theorem dX4_rotate_32 : decode cX4_rotate 32 = .ok (.getfield 113, 3) := by decide +kernel
theorem dX4_rotate_35 : decode cX4_rotate 35 = .ok (.iload_n 2, 1) := by decide +kernel
theorem dX4_rotate_36 : decode cX4_rotate 36 = .ok (.invokestatic 183, 3) := by decide +kernel
theorem dX4_rotate_39 : decode cX4_rotate 39 = .ok (.istore 5, 2) := by decide +kernel
theorem dX4_rotate_41 : decode cX4_rotate 41 = .ok (.aload_n 3, 1) := by decide +kernel
theorem dX4_rotate_42 : decode cX4_rotate 42 = .ok (.iload_n 2, 1) := by decide +kernel
theorem dX4_rotate_43 : decode cX4_rotate 43 = .ok (.putfield 113, 3) := by decide +kernel
theorem dX4_rotate_46 : decode cX4_rotate 46 = .ok (.aload_n 0, 1) := by decide +kernel
theorem dX4_rotate_47 : decode cX4_rotate 47 = .ok (.dup, 1) := by decide +kernel
theorem dX4_rotate_48 : decode cX4_rotate 48 = .ok (.getfield 38, 3) := by decide +kernel
theorem dX4_rotate_51 : decode cX4_rotate 51 = .ok (.iconst 1, 1) := by decide +kernel
theorem dX4_rotate_52 : decode cX4_rotate 52 = .ok (.isub, 1) := by decide +kernel
theorem dX4_rotate_53 : decode cX4_rotate 53 = .ok (.putfield 38, 3) := by decide +kernel
theorem dX4_rotate_56 : decode cX4_rotate 56 = .ok (.iload 5, 2) := by decide +kernel
theorem dX4_rotate_58 : decode cX4_rotate 58 = .ok (.ireturn, 1) := by decide +kernel
theorem dX4_move_0 : decode cX4_move 0 = .ok (.aload_n 0, 1) := by decide +kernel
theorem dX4_move_1 : decode cX4_move 1 = .ok (.iload_n 1, 1) := by decide +kernel
theorem dX4_move_2 : decode cX4_move 2 = .ok (.invokevirtual 175, 3) := by decide +kernel
theorem dX4_move_5 : decode cX4_move 5 = .ok (.astore 4, 2) := by decide +kernel
theorem dX4_move_7 : decode cX4_move 7 = .ok (.aload 4, 2) := by decide +kernel
theorem dX4_move_9 : decode cX4_move 9 = .ok (.ifnonnull 5, 3) := by decide +kernel
theorem dX4_move_12 : decode cX4_move 12 = .ok (.iconst (-1), 1) := by decide +kernel
theorem dX4_move_13 : decode cX4_move 13 = .ok (.ireturn, 1) := by decide +kernel
theorem dX4_move_14 : decode cX4_move 14 = .ok (.aload_n 0, 1) := by decide +kernel
theorem dX4_move_15 : decode cX4_move 15 = .ok (.aload 4, 2) := by decide +kernel
theorem dX4_move_17 : decode cX4_move 17 = .ok (.iload_n 2, 1) := by decide +kernel
theorem dX4_move_18 : decode cX4_move 18 = .ok (.iconst 1, 1) := by decide +kernel
theorem dX4_move_19 : decode cX4_move 19 = .ok (.if_icmp .lt 12, 3) := by decide +kernel
theorem dX4_move_22 : decode cX4_move 22 = .ok (.iload_n 2, 1) := by decide +kernel
theorem dX4_move_23 : decode cX4_move 23 = .ok (.iconst 3, 1) := by decide +kernel
theorem dX4_move_24 : decode cX4_move 24 = .ok (.if_icmp .gt 7, 3) := by decide +kernel
theorem dX4_move_27 : decode cX4_move 27 = .ok (.iconst 1, 1) := by decide +kernel
theorem dX4_move_28 : decode cX4_move 28 = .ok (.goto 4, 3) := by decide +kernel
theorem dX4_move_31 : decode cX4_move 31 = .ok (.iconst 0, 1) := by decide +kernel
theorem dX4_move_32 : decode cX4_move 32 = .ok (.invokevirtual 179, 3) := by decide +kernel
theorem dX4_move_35 : decode cX4_move 35 = .ok (.istore 5, 2) := by decide +kernel
theorem dX4_move_37 : decode cX4_move 37 = .ok (.iload 5, 2) := by decide +kernel
theorem dX4_move_39 : decode cX4_move 39 = .ok (.ifCond .eq 6, 3) := by decide +kernel
theorem dX4_move_42 : decode cX4_move 42 = .ok (.iload 5, 2) := by decide +kernel
theorem dX4_move_44 : decode cX4_move 44 = .ok (.ireturn, 1) := by decide +kernel
theorem dX4_move_45 : decode cX4_move 45 = .ok (.iload_n 3, 1) := by decide +kernel
theorem dX4_move_46 : decode cX4_move 46 = .ok (.ifCond .eq 14, 3) := by decide +kernel
theorem dX4_move_49 : decode cX4_move 49 = .ok (.aload 4, 2) := by decide +kernel
theorem dX4_move_51 : decode cX4_move 51 = .ok (.getfield 129, 3) := by decide +kernel
theorem dX4_move_54 : decode cX4_move 54 = .ok (.ifCond .ne 6, 3) := by decide +kernel
theorem dX4_move_57 : decode cX4_move 57 = .ok (.bipush (-12), 2) := by decide +kernel
theorem dX4_move_59 : decode cX4_move 59 = .ok (.ireturn, 1) := by decide +kernel
theorem dX4_move_60 : decode cX4_move 60 = .ok (.iload_n 2, 1) := by decide +kernel
theorem dX4_move_61 : decode cX4_move 61 = .ok (.aload_n 0, 1) := by decide +kernel
theorem dX4_move_62 : decode cX4_move 62 = .ok (.aload 4, 2) := by decide +kernel
theorem dX4_move_64 : decode cX4_move 64 = .ok (.invokevirtual 187, 3) := by decide +kernel
theorem dX4_move_67 : decode cX4_move 67 = .ok (.invokestatic 190, 3) := by decide +kernel
theorem dX4_move_70 : decode cX4_move 70 = .ok (.istore 6, 2) := by decide +kernel
theorem dX4_move_72 : decode cX4_move 72 = .ok (.iload 6, 2) := by decide +kernel
theorem dX4_move_74 : decode cX4_move 74 = .ok (.ifCond .ne 6, 3) := by decide +kernel
theorem dX4_move_77 : decode cX4_move 77 = .ok (.bipush (-13), 2) := by decide +kernel
theorem dX4_move_79 : decode cX4_move 79 = .ok (.ireturn, 1) := by decide +kernel
theorem dX4_move_80 : decode cX4_move 80 = .ok (.aload 4, 2) := by decide +kernel
theorem dX4_move_82 : decode cX4_move 82 = .ok (.dup, 1) := by decide +kernel
theorem dX4_move_83 : decode cX4_move 83 = .ok (.getfield 96, 3) := by decide +kernel
theorem dX4_move_86 : decode cX4_move 86 = .ok (.iload 6, 2) := by decide +kernel
theorem dX4_move_88 : decode cX4_move 88 = .ok (.aload 4, 2) := by decide +kernel
theorem dX4_move_90 : decode cX4_move 90 = .ok (.getfield 113, 3) := by decide +kernel
theorem dX4_move_93 : decode cX4_move 93 = .ok (.invokestatic 116, 3) := by decide +kernel
theorem dX4_move_96 : decode cX4_move 96 = .ok (.imul, 1) := by decide +kernel
theorem dX4_move_97 : decode cX4_move 97 = .ok (.iadd, 1) := by decide +kernel
theorem dX4_move_98 : decode cX4_move 98 = .ok (.putfield 96, 3) := by decide +kernel
theorem dX4_move_101 : decode cX4_move 101 = .ok (.aload 4, 2) := by decide +kernel
theorem dX4_move_103 : decode cX4_move 103 = .ok (.dup, 1) := by decide +kernel
theorem dX4_move_104 : decode cX4_move 104 = .ok (.getfield 99, 3) := by decide +kernel
theorem dX4_move_107 : decode cX4_move 107 = .ok (.iload 6, 2) := by decide +kernel
theorem dX4_move_109 : decode cX4_move 109 = .ok (.aload 4, 2) := by decide +kernel
theorem dX4_move_111 : decode cX4_move 111 = .ok (.getfield 113, 3) := by decide +kernel
theorem dX4_move_114 : decode cX4_move 114 = .ok (.invokestatic 120, 3) := by decide +kernel
theorem dX4_move_117 : decode cX4_move 117 = .ok (.imul, 1) := by decide +kernel
theorem dX4_move_118 : decode cX4_move 118 = .ok (.iadd, 1) := by decide +kernel
theorem dX4_move_119 : decode cX4_move 119 = .ok (.putfield 99, 3) := by decide +kernel
theorem dX4_move_122 : decode cX4_move 122 = .ok (.aload_n 0, 1) := by decide +kernel
theorem dX4_move_123 : decode cX4_move 123 = .ok (.dup, 1) := by decide +kernel
theorem dX4_move_124 : decode cX4_move 124 = .ok (.getfield 50, 3) := by decide +kernel
theorem dX4_move_127 : decode cX4_move 127 = .ok (.iload 6, 2) := by decide +kernel
theorem dX4_move_129 : decode cX4_move 129 = .ok (.i2l, 1) := by decide +kernel
theorem dX4_move_130 : decode cX4_move 130 = .ok (.ladd, 1) := by decide +kernel
theorem dX4_move_131 : decode cX4_move 131 = .ok (.putfield 50, 3) := by decide +kernel
theorem dX4_move_134 : decode cX4_move 134 = .ok (.aload_n 0, 1) := by decide +kernel
theorem dX4_move_135 : decode cX4_move 135 = .ok (.dup, 1) := by decide +kernel
theorem dX4_move_136 : decode cX4_move 136 = .ok (.getfield 38, 3) := by decide +kernel
theorem dX4_move_139 : decode cX4_move 139 = .ok (.iconst 1, 1) := by decide +kernel
theorem dX4_move_140 : decode cX4_move 140 = .ok (.isub, 1) := by decide +kernel
theorem dX4_move_141 : decode cX4_move 141 = .ok (.putfield 38, 3) := by decide +kernel
theorem dX4_move_144 : decode cX4_move 144 = .ok (.iload_n 3, 1) := by decide +kernel
theorem dX4_move_145 : decode cX4_move 145 = .ok (.ifCond .eq 12, 3) := by decide +kernel
theorem dX4_move_148 : decode cX4_move 148 = .ok (.aload_n 0, 1) := by decide +kernel
theorem dX4_move_149 : decode cX4_move 149 = .ok (.aload 4, 2) := by decide +kernel
theorem dX4_move_151 : decode cX4_move 151 = .ok (.invokevirtual 195, 3) := by decide +kernel
theorem dX4_move_154 : decode cX4_move 154 = .ok (.goto 8, 3) := by decide +kernel
theorem dX4_move_157 : decode cX4_move 157 = .ok (.aload 4, 2) := by decide +kernel
theorem dX4_move_159 : decode cX4_move 159 = .ok (.invokevirtual 166, 3) := by decide +kernel
theorem dX4_move_162 : decode cX4_move 162 = .ok (.aload_n 0, 1) := by decide +kernel
theorem dX4_move_163 : decode cX4_move 163 = .ok (.invokevirtual 198, 3) := by decide +kernel
theorem dX4_move_166 : decode cX4_move 166 = .ok (.iload 6, 2) := by decide +kernel
theorem dX4_move_168 : decode cX4_move 168 = .ok (.ireturn, 1) := by decide +kernel
theorem dX4_payForSecret_0 : decode cX4_payForSecret 0 = .ok (.aload_n 1, 1) := by decide +kernel
theorem dX4_payForSecret_1 : decode cX4_payForSecret 1 = .ok (.dup, 1) := by decide +kernel
theorem dX4_payForSecret_2 : decode cX4_payForSecret 2 = .ok (.getfield 129, 3) := by decide +kernel
theorem dX4_payForSecret_5 : decode cX4_payForSecret 5 = .ok (.iconst 1, 1) := by decide +kernel
theorem dX4_payForSecret_6 : decode cX4_payForSecret 6 = .ok (.isub, 1) := by decide +kernel
theorem dX4_payForSecret_7 : decode cX4_payForSecret 7 = .ok (.putfield 129, 3) := by decide +kernel
theorem dX4_payForSecret_10 : decode cX4_payForSecret 10 = .ok (.aload_n 0, 1) := by decide +kernel
theorem dX4_payForSecret_11 : decode cX4_payForSecret 11 = .ok (.aload_n 1, 1) := by decide +kernel
theorem dX4_payForSecret_12 : decode cX4_payForSecret 12 = .ok (.getfield 89, 3) := by decide +kernel
theorem dX4_payForSecret_15 : decode cX4_payForSecret 15 = .ok (.invokevirtual 157, 3) := by decide +kernel
theorem dX4_payForSecret_18 : decode cX4_payForSecret 18 = .ok (.dup, 1) := by decide +kernel
theorem dX4_payForSecret_19 : decode cX4_payForSecret 19 = .ok (.getfield 201, 3) := by decide +kernel
theorem dX4_payForSecret_22 : decode cX4_payForSecret 22 = .ok (.iconst 1, 1) := by decide +kernel
theorem dX4_payForSecret_23 : decode cX4_payForSecret 23 = .ok (.iadd, 1) := by decide +kernel
theorem dX4_payForSecret_24 : decode cX4_payForSecret 24 = .ok (.putfield 201, 3) := by decide +kernel
theorem dX4_payForSecret_27 : decode cX4_payForSecret 27 = .ok (.aload_n 0, 1) := by decide +kernel
theorem dX4_payForSecret_28 : decode cX4_payForSecret 28 = .ok (.dup, 1) := by decide +kernel
theorem dX4_payForSecret_29 : decode cX4_payForSecret 29 = .ok (.getfield 54, 3) := by decide +kernel
theorem dX4_payForSecret_32 : decode cX4_payForSecret 32 = .ok (.iconst 1, 1) := by decide +kernel
theorem dX4_payForSecret_33 : decode cX4_payForSecret 33 = .ok (.iadd, 1) := by decide +kernel
theorem dX4_payForSecret_34 : decode cX4_payForSecret 34 = .ok (.putfield 54, 3) := by decide +kernel
theorem dX4_payForSecret_37 : decode cX4_payForSecret 37 = .ok (.return_, 1) := by decide +kernel
theorem dX4_discover_0 : decode cX4_discover 0 = .ok (.aload_n 0, 1) := by decide +kernel
theorem dX4_discover_1 : decode cX4_discover 1 = .ok (.getfield 11, 3) := by decide +kernel
theorem dX4_discover_4 : decode cX4_discover 4 = .ok (.astore_n 1, 1) := by decide +kernel
theorem dX4_discover_5 : decode cX4_discover 5 = .ok (.aload_n 1, 1) := by decide +kernel
theorem dX4_discover_6 : decode cX4_discover 6 = .ok (.arraylength, 1) := by decide +kernel
theorem dX4_discover_7 : decode cX4_discover 7 = .ok (.istore_n 2, 1) := by decide +kernel
theorem dX4_discover_8 : decode cX4_discover 8 = .ok (.iconst 0, 1) := by decide +kernel
theorem dX4_discover_9 : decode cX4_discover 9 = .ok (.istore_n 3, 1) := by decide +kernel
theorem dX4_discover_10 : decode cX4_discover 10 = .ok (.iload_n 3, 1) := by decide +kernel
theorem dX4_discover_11 : decode cX4_discover 11 = .ok (.iload_n 2, 1) := by decide +kernel
theorem dX4_discover_12 : decode cX4_discover 12 = .ok (.if_icmp .ge 36, 3) := by decide +kernel
theorem dX4_discover_15 : decode cX4_discover 15 = .ok (.aload_n 1, 1) := by decide +kernel
theorem dX4_discover_16 : decode cX4_discover 16 = .ok (.iload_n 3, 1) := by decide +kernel
theorem dX4_discover_17 : decode cX4_discover 17 = .ok (.aaload, 1) := by decide +kernel
theorem dX4_discover_18 : decode cX4_discover 18 = .ok (.astore 4, 2) := by decide +kernel
theorem dX4_discover_20 : decode cX4_discover 20 = .ok (.aload 4, 2) := by decide +kernel
theorem dX4_discover_22 : decode cX4_discover 22 = .ok (.invokevirtual 74, 3) := by decide +kernel
theorem dX4_discover_25 : decode cX4_discover 25 = .ok (.ifCond .eq 17, 3) := by decide +kernel
theorem dX4_discover_28 : decode cX4_discover 28 = .ok (.aload_n 0, 1) := by decide +kernel
theorem dX4_discover_29 : decode cX4_discover 29 = .ok (.aload 4, 2) := by decide +kernel
theorem dX4_discover_31 : decode cX4_discover 31 = .ok (.invokevirtual 204, 3) := by decide +kernel
theorem dX4_discover_34 : decode cX4_discover 34 = .ok (.ifCond .eq 8, 3) := by decide +kernel
theorem dX4_discover_37 : decode cX4_discover 37 = .ok (.aload 4, 2) := by decide +kernel
theorem dX4_discover_39 : decode cX4_discover 39 = .ok (.invokevirtual 166, 3) := by decide +kernel
theorem dX4_discover_42 : decode cX4_discover 42 = .ok (.iinc 3 1, 3) := by decide +kernel
theorem dX4_discover_45 : decode cX4_discover 45 = .ok (.goto (-35), 3) := by decide +kernel
theorem dX4_discover_48 : decode cX4_discover 48 = .ok (.return_, 1) := by decide +kernel
theorem dX4_isOpponentNear_0 : decode cX4_isOpponentNear 0 = .ok (.aload_n 0, 1) := by decide +kernel
theorem dX4_isOpponentNear_1 : decode cX4_isOpponentNear 1 = .ok (.getfield 11, 3) := by decide +kernel
theorem dX4_isOpponentNear_4 : decode cX4_isOpponentNear 4 = .ok (.astore_n 2, 1) := by decide +kernel
theorem dX4_isOpponentNear_5 : decode cX4_isOpponentNear 5 = .ok (.aload_n 2, 1) := by decide +kernel
theorem dX4_isOpponentNear_6 : decode cX4_isOpponentNear 6 = .ok (.arraylength, 1) := by decide +kernel
theorem dX4_isOpponentNear_7 : decode cX4_isOpponentNear 7 = .ok (.istore_n 3, 1) := by decide +kernel
theorem dX4_isOpponentNear_8 : decode cX4_isOpponentNear 8 = .ok (.iconst 0, 1) := by decide +kernel
theorem dX4_isOpponentNear_9 : decode cX4_isOpponentNear 9 = .ok (.istore 4, 2) := by decide +kernel
theorem dX4_isOpponentNear_11 : decode cX4_isOpponentNear 11 = .ok (.iload 4, 2) := by decide +kernel
theorem dX4_isOpponentNear_13 : decode cX4_isOpponentNear 13 = .ok (.iload_n 3, 1) := by decide +kernel
theorem dX4_isOpponentNear_14 : decode cX4_isOpponentNear 14 = .ok (.if_icmp .ge 48, 3) := by decide +kernel
theorem dX4_isOpponentNear_17 : decode cX4_isOpponentNear 17 = .ok (.aload_n 2, 1) := by decide +kernel
theorem dX4_isOpponentNear_18 : decode cX4_isOpponentNear 18 = .ok (.iload 4, 2) := by decide +kernel
theorem dX4_isOpponentNear_20 : decode cX4_isOpponentNear 20 = .ok (.aaload, 1) := by decide +kernel
theorem dX4_isOpponentNear_21 : decode cX4_isOpponentNear 21 = .ok (.astore 5, 2) := by decide +kernel
theorem dX4_isOpponentNear_23 : decode cX4_isOpponentNear 23 = .ok (.aload 5, 2) := by decide +kernel
theorem dX4_isOpponentNear_25 : decode cX4_isOpponentNear 25 = .ok (.iconst 1, 1) := by decide +kernel
theorem dX4_isOpponentNear_26 : decode cX4_isOpponentNear 26 = .ok (.aload_n 1, 1) := by decide +kernel
theorem dX4_isOpponentNear_27 : decode cX4_isOpponentNear 27 = .ok (.getfield 89, 3) := by decide +kernel
theorem dX4_isOpponentNear_30 : decode cX4_isOpponentNear 30 = .ok (.isub, 1) := by decide +kernel
theorem dX4_isOpponentNear_31 : decode cX4_isOpponentNear 31 = .ok (.invokevirtual 92, 3) := by decide +kernel
theorem dX4_isOpponentNear_34 : decode cX4_isOpponentNear 34 = .ok (.ifCond .eq 22, 3) := by decide +kernel
theorem dX4_isOpponentNear_37 : decode cX4_isOpponentNear 37 = .ok (.aload 5, 2) := by decide +kernel
theorem dX4_isOpponentNear_39 : decode cX4_isOpponentNear 39 = .ok (.aload_n 1, 1) := by decide +kernel
theorem dX4_isOpponentNear_40 : decode cX4_isOpponentNear 40 = .ok (.getfield 96, 3) := by decide +kernel
theorem dX4_isOpponentNear_43 : decode cX4_isOpponentNear 43 = .ok (.aload_n 1, 1) := by decide +kernel
theorem dX4_isOpponentNear_44 : decode cX4_isOpponentNear 44 = .ok (.getfield 99, 3) := by decide +kernel
theorem dX4_isOpponentNear_47 : decode cX4_isOpponentNear 47 = .ok (.invokevirtual 207, 3) := by decide +kernel
theorem dX4_isOpponentNear_50 : decode cX4_isOpponentNear 50 = .ok (.iconst 2, 1) := by decide +kernel
theorem dX4_isOpponentNear_51 : decode cX4_isOpponentNear 51 = .ok (.if_icmp .gt 5, 3) := by decide +kernel
theorem dX4_isOpponentNear_54 : decode cX4_isOpponentNear 54 = .ok (.iconst 1, 1) := by decide +kernel
theorem dX4_isOpponentNear_55 : decode cX4_isOpponentNear 55 = .ok (.ireturn, 1) := by decide +kernel
theorem dX4_isOpponentNear_56 : decode cX4_isOpponentNear 56 = .ok (.iinc 4 1, 3) := by decide +kernel
theorem dX4_isOpponentNear_59 : decode cX4_isOpponentNear 59 = .ok (.goto (-48), 3) := by decide +kernel
theorem dX4_isOpponentNear_62 : decode cX4_isOpponentNear 62 = .ok (.iconst 0, 1) := by decide +kernel
theorem dX4_isOpponentNear_63 : decode cX4_isOpponentNear 63 = .ok (.ireturn, 1) := by decide +kernel
theorem dX4_shoot_0 : decode cX4_shoot 0 = .ok (.aload_n 0, 1) := by decide +kernel
theorem dX4_shoot_1 : decode cX4_shoot 1 = .ok (.iload_n 1, 1) := by decide +kernel
theorem dX4_shoot_2 : decode cX4_shoot 2 = .ok (.invokevirtual 175, 3) := by decide +kernel
theorem dX4_shoot_5 : decode cX4_shoot 5 = .ok (.astore 4, 2) := by decide +kernel
theorem dX4_shoot_7 : decode cX4_shoot 7 = .ok (.aload 4, 2) := by decide +kernel
theorem dX4_shoot_9 : decode cX4_shoot 9 = .ok (.ifnonnull 5, 3) := by decide +kernel
theorem dX4_shoot_12 : decode cX4_shoot 12 = .ok (.iconst (-1), 1) := by decide +kernel
theorem dX4_shoot_13 : decode cX4_shoot 13 = .ok (.ireturn, 1) := by decide +kernel
theorem dX4_shoot_14 : decode cX4_shoot 14 = .ok (.aload_n 0, 1) := by decide +kernel
theorem dX4_shoot_15 : decode cX4_shoot 15 = .ok (.aload 4, 2) := by decide +kernel
theorem dX4_shoot_17 : decode cX4_shoot 17 = .ok (.iload_n 2, 1) := by decide +kernel
theorem dX4_shoot_18 : decode cX4_shoot 18 = .ok (.iload_n 3, 1) := by decide +kernel
theorem dX4_shoot_19 : decode cX4_shoot 19 = .ok (.invokestatic 126, 3) := by decide +kernel
theorem dX4_shoot_22 : decode cX4_shoot 22 = .ok (.invokevirtual 179, 3) := by decide +kernel
theorem dX4_shoot_25 : decode cX4_shoot 25 = .ok (.istore 5, 2) := by decide +kernel
theorem dX4_shoot_27 : decode cX4_shoot 27 = .ok (.iload 5, 2) := by decide +kernel
theorem dX4_shoot_29 : decode cX4_shoot 29 = .ok (.ifCond .eq 6, 3) := by decide +kernel
theorem dX4_shoot_32 : decode cX4_shoot 32 = .ok (.iload 5, 2) := by decide +kernel
theorem dX4_shoot_34 : decode cX4_shoot 34 = .ok (.ireturn, 1) := by decide +kernel
theorem dX4_shoot_35 : decode cX4_shoot 35 = .ok (.aload 4, 2) := by decide +kernel
theorem dX4_shoot_37 : decode cX4_shoot 37 = .ok (.getfield 129, 3) := by decide +kernel
theorem dX4_shoot_40 : decode cX4_shoot 40 = .ok (.ifCond .ne 6, 3) := by decide +kernel
theorem dX4_shoot_43 : decode cX4_shoot 43 = .ok (.bipush (-12), 2) := by decide +kernel
theorem dX4_shoot_45 : decode cX4_shoot 45 = .ok (.ireturn, 1) := by decide +kernel
theorem dX4_shoot_46 : decode cX4_shoot 46 = .ok (.aload 4, 2) := by decide +kernel
theorem dX4_shoot_48 : decode cX4_shoot 48 = .ok (.iload_n 2, 1) := by decide +kernel
theorem dX4_shoot_49 : decode cX4_shoot 49 = .ok (.iload_n 3, 1) := by decide +kernel
theorem dX4_shoot_50 : decode cX4_shoot 50 = .ok (.invokevirtual 210, 3) := by decide +kernel
theorem dX4_shoot_53 : decode cX4_shoot 53 = .ok (.ifCond .ne 6, 3) := by decide +kernel
theorem dX4_shoot_56 : decode cX4_shoot 56 = .ok (.bipush (-14), 2) := by decide +kernel
theorem dX4_shoot_58 : decode cX4_shoot 58 = .ok (.ireturn, 1) := by decide +kernel
theorem dX4_shoot_59 : decode cX4_shoot 59 = .ok (.aload 4, 2) := by decide +kernel
theorem dX4_shoot_61 : decode cX4_shoot 61 = .ok (.iload_n 2, 1) := by decide +kernel
theorem dX4_shoot_62 : decode cX4_shoot 62 = .ok (.iload_n 3, 1) := by decide +kernel
theorem dX4_shoot_63 : decode cX4_shoot 63 = .ok (.invokevirtual 102, 3) := by decide +kernel
theorem dX4_shoot_66 : decode cX4_shoot 66 = .ok (.ifCond .ne 6, 3) := by decide +kernel
theorem dX4_shoot_69 : decode cX4_shoot 69 = .ok (.bipush (-15), 2) := by decide +kernel
theorem dX4_shoot_71 : decode cX4_shoot 71 = .ok (.ireturn, 1) := by decide +kernel
theorem dX4_shoot_72 : decode cX4_shoot 72 = .ok (.aload 4, 2) := by decide +kernel
theorem dX4_shoot_74 : decode cX4_shoot 74 = .ok (.dup, 1) := by decide +kernel
theorem dX4_shoot_75 : decode cX4_shoot 75 = .ok (.getfield 129, 3) := by decide +kernel
theorem dX4_shoot_78 : decode cX4_shoot 78 = .ok (.iconst 1, 1) := by decide +kernel
theorem dX4_shoot_79 : decode cX4_shoot 79 = .ok (.isub, 1) := by decide +kernel
theorem dX4_shoot_80 : decode cX4_shoot 80 = .ok (.putfield 129, 3) := by decide +kernel
theorem dX4_shoot_83 : decode cX4_shoot 83 = .ok (.aload_n 0, 1) := by decide +kernel
theorem dX4_shoot_84 : decode cX4_shoot 84 = .ok (.aload 4, 2) := by decide +kernel
theorem dX4_shoot_86 : decode cX4_shoot 86 = .ok (.getfield 89, 3) := by decide +kernel
theorem dX4_shoot_89 : decode cX4_shoot 89 = .ok (.invokevirtual 157, 3) := by decide +kernel
theorem dX4_shoot_92 : decode cX4_shoot 92 = .ok (.dup, 1) := by decide +kernel
theorem dX4_shoot_93 : decode cX4_shoot 93 = .ok (.getfield 213, 3) := by decide +kernel
theorem dX4_shoot_96 : decode cX4_shoot 96 = .ok (.iconst 1, 1) := by decide +kernel
theorem dX4_shoot_97 : decode cX4_shoot 97 = .ok (.iadd, 1) := by decide +kernel
theorem dX4_shoot_98 : decode cX4_shoot 98 = .ok (.putfield 213, 3) := by decide +kernel
theorem dX4_shoot_101 : decode cX4_shoot 101 = .ok (.aload 4, 2) := by decide +kernel
theorem dX4_shoot_103 : decode cX4_shoot 103 = .ok (.invokevirtual 166, 3) := by decide +kernel
theorem dX4_shoot_106 : decode cX4_shoot 106 = .ok (.aload_n 0, 1) := by decide +kernel
theorem dX4_shoot_107 : decode cX4_shoot 107 = .ok (.dup, 1) := by decide +kernel
theorem dX4_shoot_108 : decode cX4_shoot 108 = .ok (.getfield 44, 3) := by decide +kernel
theorem dX4_shoot_111 : decode cX4_shoot 111 = .ok (.iconst 1, 1) := by decide +kernel
theorem dX4_shoot_112 : decode cX4_shoot 112 = .ok (.iadd, 1) := by decide +kernel
theorem dX4_shoot_113 : decode cX4_shoot 113 = .ok (.putfield 44, 3) := by decide +kernel
theorem dX4_shoot_116 : decode cX4_shoot 116 = .ok (.aload_n 0, 1) := by decide +kernel
theorem dX4_shoot_117 : decode cX4_shoot 117 = .ok (.dup, 1) := by decide +kernel
theorem dX4_shoot_118 : decode cX4_shoot 118 = .ok (.getfield 38, 3) := by decide +kernel
theorem dX4_shoot_121 : decode cX4_shoot 121 = .ok (.iconst 1, 1) := by decide +kernel
theorem dX4_shoot_122 : decode cX4_shoot 122 = .ok (.isub, 1) := by decide +kernel
theorem dX4_shoot_123 : decode cX4_shoot 123 = .ok (.putfield 38, 3) := by decide +kernel
theorem dX4_shoot_126 : decode cX4_shoot 126 = .ok (.aload_n 0, 1) := by decide +kernel
theorem dX4_shoot_127 : decode cX4_shoot 127 = .ok (.iload_n 2, 1) := by decide +kernel
theorem dX4_shoot_128 : decode cX4_shoot 128 = .ok (.iload_n 3, 1) := by decide +kernel
theorem dX4_shoot_129 : decode cX4_shoot 129 = .ok (.invokevirtual 109, 3) := by decide +kernel
theorem dX4_shoot_132 : decode cX4_shoot 132 = .ok (.astore 6, 2) := by decide +kernel
theorem dX4_shoot_134 : decode cX4_shoot 134 = .ok (.aload 6, 2) := by decide +kernel
theorem dX4_shoot_136 : decode cX4_shoot 136 = .ok (.ifnonnull 7, 3) := by decide +kernel
theorem dX4_shoot_139 : decode cX4_shoot 139 = .ok (.iconst 0, 1) := by decide +kernel
theorem dX4_shoot_140 : decode cX4_shoot 140 = .ok (.goto 9, 3) := by decide +kernel
theorem dX4_shoot_143 : decode cX4_shoot 143 = .ok (.aload_n 0, 1) := by decide +kernel
theorem dX4_shoot_144 : decode cX4_shoot 144 = .ok (.aload 6, 2) := by decide +kernel
theorem dX4_shoot_146 : decode cX4_shoot 146 = .ok (.invokevirtual 216, 3) := by decide +kernel
theorem dX4_shoot_149 : decode cX4_shoot 149 = .ok (.ireturn, 1) := by decide +kernel
theorem dX4_hit_0 : decode cX4_hit 0 = .ok (.aload_n 0, 1) := by decide +kernel
theorem dX4_hit_1 : decode cX4_hit 1 = .ok (.dup, 1) := by decide +kernel
theorem dX4_hit_2 : decode cX4_hit 2 = .ok (.getfield 47, 3) := by decide +kernel
theorem dX4_hit_5 : decode cX4_hit 5 = .ok (.iconst 1, 1) := by decide +kernel
theorem dX4_hit_6 : decode cX4_hit 6 = .ok (.iadd, 1) := by decide +kernel
theorem dX4_hit_7 : decode cX4_hit 7 = .ok (.putfield 47, 3) := by decide +kernel
theorem dX4_hit_10 : decode cX4_hit 10 = .ok (.aload_n 1, 1) := by decide +kernel
theorem dX4_hit_11 : decode cX4_hit 11 = .ok (.dup, 1) := by decide +kernel
theorem dX4_hit_12 : decode cX4_hit 12 = .ok (.getfield 163, 3) := by decide +kernel
theorem dX4_hit_15 : decode cX4_hit 15 = .ok (.iconst 1, 1) := by decide +kernel
theorem dX4_hit_16 : decode cX4_hit 16 = .ok (.isub, 1) := by decide +kernel
theorem dX4_hit_17 : decode cX4_hit 17 = .ok (.putfield 163, 3) := by decide +kernel
theorem dX4_hit_20 : decode cX4_hit 20 = .ok (.aload_n 1, 1) := by decide +kernel
theorem dX4_hit_21 : decode cX4_hit 21 = .ok (.invokevirtual 166, 3) := by decide +kernel
theorem dX4_hit_24 : decode cX4_hit 24 = .ok (.aload_n 1, 1) := by decide +kernel
theorem dX4_hit_25 : decode cX4_hit 25 = .ok (.invokevirtual 74, 3) := by decide +kernel
theorem dX4_hit_28 : decode cX4_hit 28 = .ok (.ifCond .eq 5, 3) := by decide +kernel
theorem dX4_hit_31 : decode cX4_hit 31 = .ok (.iconst 1, 1) := by decide +kernel
theorem dX4_hit_32 : decode cX4_hit 32 = .ok (.ireturn, 1) := by decide +kernel
theorem dX4_hit_33 : decode cX4_hit 33 = .ok (.aload_n 0, 1) := by decide +kernel
theorem dX4_hit_34 : decode cX4_hit 34 = .ok (.aload_n 1, 1) := by decide +kernel
theorem dX4_hit_35 : decode cX4_hit 35 = .ok (.getfield 89, 3) := by decide +kernel
theorem dX4_hit_38 : decode cX4_hit 38 = .ok (.invokevirtual 157, 3) := by decide +kernel
theorem dX4_hit_41 : decode cX4_hit 41 = .ok (.astore_n 2, 1) := by decide +kernel
theorem dX4_hit_42 : decode cX4_hit 42 = .ok (.aload_n 2, 1) := by decide +kernel
theorem dX4_hit_43 : decode cX4_hit 43 = .ok (.dup, 1) := by decide +kernel
theorem dX4_hit_44 : decode cX4_hit 44 = .ok (.getfield 67, 3) := by decide +kernel
theorem dX4_hit_47 : decode cX4_hit 47 = .ok (.iconst 1, 1) := by decide +kernel
theorem dX4_hit_48 : decode cX4_hit 48 = .ok (.isub, 1) := by decide +kernel
theorem dX4_hit_49 : decode cX4_hit 49 = .ok (.putfield 67, 3) := by decide +kernel
theorem dX4_hit_52 : decode cX4_hit 52 = .ok (.aload_n 2, 1) := by decide +kernel
theorem dX4_hit_53 : decode cX4_hit 53 = .ok (.dup, 1) := by decide +kernel
theorem dX4_hit_54 : decode cX4_hit 54 = .ok (.getfield 219, 3) := by decide +kernel
theorem dX4_hit_57 : decode cX4_hit 57 = .ok (.aload_n 1, 1) := by decide +kernel
theorem dX4_hit_58 : decode cX4_hit 58 = .ok (.getfield 129, 3) := by decide +kernel
theorem dX4_hit_61 : decode cX4_hit 61 = .ok (.iadd, 1) := by decide +kernel
theorem dX4_hit_62 : decode cX4_hit 62 = .ok (.putfield 219, 3) := by decide +kernel
theorem dX4_hit_65 : decode cX4_hit 65 = .ok (.aload_n 1, 1) := by decide +kernel
theorem dX4_hit_66 : decode cX4_hit 66 = .ok (.iconst 0, 1) := by decide +kernel
theorem dX4_hit_67 : decode cX4_hit 67 = .ok (.putfield 129, 3) := by decide +kernel
theorem dX4_hit_70 : decode cX4_hit 70 = .ok (.iconst 2, 1) := by decide +kernel
theorem dX4_hit_71 : decode cX4_hit 71 = .ok (.ireturn, 1) := by decide +kernel
theorem dX4_fill_0 : decode cX4_fill 0 = .ok (.aload_n 0, 1) := by decide +kernel
theorem dX4_fill_1 : decode cX4_fill 1 = .ok (.iload_n 1, 1) := by decide +kernel
theorem dX4_fill_2 : decode cX4_fill 2 = .ok (.invokevirtual 175, 3) := by decide +kernel
theorem dX4_fill_5 : decode cX4_fill 5 = .ok (.astore_n 3, 1) := by decide +kernel
theorem dX4_fill_6 : decode cX4_fill 6 = .ok (.aload_n 3, 1) := by decide +kernel
theorem dX4_fill_7 : decode cX4_fill 7 = .ok (.ifnonnull 5, 3) := by decide +kernel
theorem dX4_fill_10 : decode cX4_fill 10 = .ok (.iconst (-1), 1) := by decide +kernel
theorem dX4_fill_11 : decode cX4_fill 11 = .ok (.ireturn, 1) := by decide +kernel
theorem dX4_fill_12 : decode cX4_fill 12 = .ok (.aload_n 0, 1) := by decide +kernel
theorem dX4_fill_13 : decode cX4_fill 13 = .ok (.aload_n 3, 1) := by decide +kernel
theorem dX4_fill_14 : decode cX4_fill 14 = .ok (.iload_n 2, 1) := by decide +kernel
theorem dX4_fill_15 : decode cX4_fill 15 = .ok (.invokestatic 154, 3) := by decide +kernel
theorem dX4_fill_18 : decode cX4_fill 18 = .ok (.invokevirtual 179, 3) := by decide +kernel
theorem dX4_fill_21 : decode cX4_fill 21 = .ok (.istore 4, 2) := by decide +kernel
theorem dX4_fill_23 : decode cX4_fill 23 = .ok (.iload 4, 2) := by decide +kernel
theorem dX4_fill_25 : decode cX4_fill 25 = .ok (.ifCond .eq 6, 3) := by decide +kernel
theorem dX4_fill_28 : decode cX4_fill 28 = .ok (.iload 4, 2) := by decide +kernel
theorem dX4_fill_30 : decode cX4_fill 30 = .ok (.ireturn, 1) := by decide +kernel
theorem dX4_fill_31 : decode cX4_fill 31 = .ok (.aload_n 0, 1) := by decide +kernel
theorem dX4_fill_32 : decode cX4_fill 32 = .ok (.aload_n 3, 1) := by decide +kernel
theorem dX4_fill_33 : decode cX4_fill 33 = .ok (.getfield 89, 3) := by decide +kernel
theorem dX4_fill_36 : decode cX4_fill 36 = .ok (.invokevirtual 157, 3) := by decide +kernel
theorem dX4_fill_39 : decode cX4_fill 39 = .ok (.astore 5, 2) := by decide +kernel
theorem dX4_fill_41 : decode cX4_fill 41 = .ok (.aload 5, 2) := by decide +kernel
theorem dX4_fill_43 : decode cX4_fill 43 = .ok (.getfield 222, 3) := by decide +kernel
theorem dX4_fill_46 : decode cX4_fill 46 = .ok (.iload_n 2, 1) := by decide +kernel
theorem dX4_fill_47 : decode cX4_fill 47 = .ok (.if_icmp .lt 14, 3) := by decide +kernel
theorem dX4_fill_50 : decode cX4_fill 50 = .ok (.aload_n 3, 1) := by decide +kernel
theorem dX4_fill_51 : decode cX4_fill 51 = .ok (.getfield 129, 3) := by decide +kernel
theorem dX4_fill_54 : decode cX4_fill 54 = .ok (.iload_n 2, 1) := by decide +kernel
theorem dX4_fill_55 : decode cX4_fill 55 = .ok (.iadd, 1) := by decide +kernel
theorem dX4_fill_56 : decode cX4_fill 56 = .ok (.bipush 9, 2) := by decide +kernel
theorem dX4_fill_58 : decode cX4_fill 58 = .ok (.if_icmp .le 6, 3) := by decide +kernel
theorem dX4_fill_61 : decode cX4_fill 61 = .ok (.bipush (-16), 2) := by decide +kernel
theorem dX4_fill_63 : decode cX4_fill 63 = .ok (.ireturn, 1) := by decide +kernel
theorem dX4_fill_64 : decode cX4_fill 64 = .ok (.aload 5, 2) := by decide +kernel
theorem dX4_fill_66 : decode cX4_fill 66 = .ok (.dup, 1) := by decide +kernel
theorem dX4_fill_67 : decode cX4_fill 67 = .ok (.getfield 222, 3) := by decide +kernel
theorem dX4_fill_70 : decode cX4_fill 70 = .ok (.iload_n 2, 1) := by decide +kernel
theorem dX4_fill_71 : decode cX4_fill 71 = .ok (.isub, 1) := by decide +kernel
theorem dX4_fill_72 : decode cX4_fill 72 = .ok (.putfield 222, 3) := by decide +kernel
theorem dX4_fill_75 : decode cX4_fill 75 = .ok (.aload 5, 2) := by decide +kernel
theorem dX4_fill_77 : decode cX4_fill 77 = .ok (.dup, 1) := by decide +kernel
theorem dX4_fill_78 : decode cX4_fill 78 = .ok (.getfield 225, 3) := by decide +kernel
theorem dX4_fill_81 : decode cX4_fill 81 = .ok (.iload_n 2, 1) := by decide +kernel
theorem dX4_fill_82 : decode cX4_fill 82 = .ok (.iadd, 1) := by decide +kernel
theorem dX4_fill_83 : decode cX4_fill 83 = .ok (.putfield 225, 3) := by decide +kernel
theorem dX4_fill_86 : decode cX4_fill 86 = .ok (.aload_n 3, 1) := by decide +kernel
theorem dX4_fill_87 : decode cX4_fill 87 = .ok (.dup, 1) := by decide +kernel
theorem dX4_fill_88 : decode cX4_fill 88 = .ok (.getfield 129, 3) := by decide +kernel
theorem dX4_fill_91 : decode cX4_fill 91 = .ok (.iload_n 2, 1) := by decide +kernel
theorem dX4_fill_92 : decode cX4_fill 92 = .ok (.iadd, 1) := by decide +kernel
theorem dX4_fill_93 : decode cX4_fill 93 = .ok (.putfield 129, 3) := by decide +kernel
theorem dX4_fill_96 : decode cX4_fill 96 = .ok (.aload_n 0, 1) := by decide +kernel
theorem dX4_fill_97 : decode cX4_fill 97 = .ok (.dup, 1) := by decide +kernel
theorem dX4_fill_98 : decode cX4_fill 98 = .ok (.getfield 38, 3) := by decide +kernel
theorem dX4_fill_101 : decode cX4_fill 101 = .ok (.iconst 1, 1) := by decide +kernel
theorem dX4_fill_102 : decode cX4_fill 102 = .ok (.isub, 1) := by decide +kernel
theorem dX4_fill_103 : decode cX4_fill 103 = .ok (.putfield 38, 3) := by decide +kernel
theorem dX4_fill_106 : decode cX4_fill 106 = .ok (.aload_n 3, 1) := by decide +kernel
theorem dX4_fill_107 : decode cX4_fill 107 = .ok (.getfield 129, 3) := by decide +kernel
theorem dX4_fill_110 : decode cX4_fill 110 = .ok (.ireturn, 1) := by decide +kernel
theorem dX4_objectionTo_0 : decode cX4_objectionTo 0 = .ok (.iload_n 2, 1) := by decide +kernel
theorem dX4_objectionTo_1 : decode cX4_objectionTo 1 = .ok (.ifCond .ne 6, 3) := by decide +kernel
theorem dX4_objectionTo_4 : decode cX4_objectionTo 4 = .ok (.bipush (-2), 2) := by decide +kernel
theorem dX4_objectionTo_6 : decode cX4_objectionTo 6 = .ok (.ireturn, 1) := by decide +kernel
theorem dX4_objectionTo_7 : decode cX4_objectionTo 7 = .ok (.aload_n 0, 1) := by decide +kernel
theorem dX4_objectionTo_8 : decode cX4_objectionTo 8 = .ok (.invokevirtual 172, 3) := by decide +kernel
theorem dX4_objectionTo_11 : decode cX4_objectionTo 11 = .ok (.ifCond .eq 14, 3) := by decide +kernel
theorem dX4_objectionTo_14 : decode cX4_objectionTo 14 = .ok (.aload_n 1, 1) := by decide +kernel
theorem dX4_objectionTo_15 : decode cX4_objectionTo 15 = .ok (.aload_n 0, 1) := by decide +kernel
theorem dX4_objectionTo_16 : decode cX4_objectionTo 16 = .ok (.getfield 35, 3) := by decide +kernel
theorem dX4_objectionTo_19 : decode cX4_objectionTo 19 = .ok (.invokevirtual 92, 3) := by decide +kernel
theorem dX4_objectionTo_22 : decode cX4_objectionTo 22 = .ok (.ifCond .ne 6, 3) := by decide +kernel
theorem dX4_objectionTo_25 : decode cX4_objectionTo 25 = .ok (.bipush (-3), 2) := by decide +kernel
theorem dX4_objectionTo_27 : decode cX4_objectionTo 27 = .ok (.ireturn, 1) := by decide +kernel
theorem dX4_objectionTo_28 : decode cX4_objectionTo 28 = .ok (.aload_n 0, 1) := by decide +kernel
theorem dX4_objectionTo_29 : decode cX4_objectionTo 29 = .ok (.getfield 38, 3) := by decide +kernel
theorem dX4_objectionTo_32 : decode cX4_objectionTo 32 = .ok (.ifCond .ne 8, 3) := by decide +kernel
theorem dX4_objectionTo_35 : decode cX4_objectionTo 35 = .ok (.bipush (-11), 2) := by decide +kernel
theorem dX4_objectionTo_37 : decode cX4_objectionTo 37 = .ok (.goto 4, 3) := by decide +kernel
theorem dX4_objectionTo_40 : decode cX4_objectionTo 40 = .ok (.iconst 0, 1) := by decide +kernel
theorem dX4_objectionTo_41 : decode cX4_objectionTo 41 = .ok (.ireturn, 1) := by decide +kernel
theorem dX5_init_0 : decode cX5_init 0 = .ok (.aload_n 0, 1) := by decide +kernel
theorem dX5_init_1 : decode cX5_init 1 = .ok (.invokespecial 3, 3) := by decide +kernel
theorem dX5_init_4 : decode cX5_init 4 = .ok (.aload_n 0, 1) := by decide +kernel
theorem dX5_init_5 : decode cX5_init 5 = .ok (.bipush 8, 2) := by decide +kernel
theorem dX5_init_7 : decode cX5_init 7 = .ok (.anewarray 9, 3) := by decide +kernel
theorem dX5_init_10 : decode cX5_init 10 = .ok (.putfield 11, 3) := by decide +kernel
theorem dX5_init_13 : decode cX5_init 13 = .ok (.aload_n 0, 1) := by decide +kernel
theorem dX5_init_14 : decode cX5_init 14 = .ok (.iconst 0, 1) := by decide +kernel
theorem dX5_init_15 : decode cX5_init 15 = .ok (.putfield 17, 3) := by decide +kernel
theorem dX5_init_18 : decode cX5_init 18 = .ok (.aload_n 0, 1) := by decide +kernel
theorem dX5_init_19 : decode cX5_init 19 = .ok (.iconst 0, 1) := by decide +kernel
theorem dX5_init_20 : decode cX5_init 20 = .ok (.putfield 21, 3) := by decide +kernel
theorem dX5_init_23 : decode cX5_init 23 = .ok (.iconst 0, 1) := by decide +kernel
theorem dX5_init_24 : decode cX5_init 24 = .ok (.istore_n 1, 1) := by decide +kernel
theorem dX5_init_25 : decode cX5_init 25 = .ok (.iload_n 1, 1) := by decide +kernel
theorem dX5_init_26 : decode cX5_init 26 = .ok (.aload_n 0, 1) := by decide +kernel
theorem dX5_init_27 : decode cX5_init 27 = .ok (.getfield 11, 3) := by decide +kernel
theorem dX5_init_30 : decode cX5_init 30 = .ok (.arraylength, 1) := by decide +kernel
theorem dX5_init_31 : decode cX5_init 31 = .ok (.if_icmp .ge 22, 3) := by decide +kernel
theorem dX5_init_34 : decode cX5_init 34 = .ok (.aload_n 0, 1) := by decide +kernel
theorem dX5_init_35 : decode cX5_init 35 = .ok (.getfield 11, 3) := by decide +kernel
theorem dX5_init_38 : decode cX5_init 38 = .ok (.iload_n 1, 1) := by decide +kernel
theorem dX5_init_39 : decode cX5_init 39 = .ok (.new 9, 3) := by decide +kernel
theorem dX5_init_42 : decode cX5_init 42 = .ok (.dup, 1) := by decide +kernel
theorem dX5_init_43 : decode cX5_init 43 = .ok (.invokespecial 24, 3) := by decide +kernel
theorem dX5_init_46 : decode cX5_init 46 = .ok (.aastore, 1) := by decide +kernel
theorem dX5_init_47 : decode cX5_init 47 = .ok (.iinc 1 1, 3) := by decide +kernel
theorem dX5_init_50 : decode cX5_init 50 = .ok (.goto (-25), 3) := by decide +kernel
theorem dX5_init_53 : decode cX5_init 53 = .ok (.return_, 1) := by decide +kernel
theorem dX5_push_0 : decode cX5_push 0 = .ok (.aload_n 0, 1) := by decide +kernel
theorem dX5_push_1 : decode cX5_push 1 = .ok (.getfield 17, 3) := by decide +kernel
theorem dX5_push_4 : decode cX5_push 4 = .ok (.ifCond .lt 15, 3) := by decide +kernel
theorem dX5_push_7 : decode cX5_push 7 = .ok (.aload_n 0, 1) := by decide +kernel
theorem dX5_push_8 : decode cX5_push 8 = .ok (.getfield 17, 3) := by decide +kernel
theorem dX5_push_11 : decode cX5_push 11 = .ok (.aload_n 0, 1) := by decide +kernel
theorem dX5_push_12 : decode cX5_push 12 = .ok (.getfield 11, 3) := by decide +kernel
theorem dX5_push_15 : decode cX5_push 15 = .ok (.arraylength, 1) := by decide +kernel
theorem dX5_push_16 : decode cX5_push 16 = .ok (.if_icmp .lt 4, 3) := by decide +kernel
theorem dX5_push_19 : decode cX5_push 19 = .ok (.return_, 1) := by decide +kernel
theorem dX5_push_20 : decode cX5_push 20 = .ok (.aload_n 0, 1) := by decide +kernel
theorem dX5_push_21 : decode cX5_push 21 = .ok (.getfield 11, 3) := by decide +kernel
theorem dX5_push_24 : decode cX5_push 24 = .ok (.aload_n 0, 1) := by decide +kernel
theorem dX5_push_25 : decode cX5_push 25 = .ok (.getfield 17, 3) := by decide +kernel
theorem dX5_push_28 : decode cX5_push 28 = .ok (.aaload, 1) := by decide +kernel
theorem dX5_push_29 : decode cX5_push 29 = .ok (.aload_n 1, 1) := by decide +kernel
theorem dX5_push_30 : decode cX5_push 30 = .ok (.invokevirtual 25, 3) := by decide +kernel
theorem dX5_push_33 : decode cX5_push 33 = .ok (.aload_n 0, 1) := by decide +kernel
theorem dX5_push_34 : decode cX5_push 34 = .ok (.aload_n 0, 1) := by decide +kernel
theorem dX5_push_35 : decode cX5_push 35 = .ok (.getfield 17, 3) := by decide +kernel
theorem dX5_push_38 : decode cX5_push 38 = .ok (.iconst 1, 1) := by decide +kernel
theorem dX5_push_39 : decode cX5_push 39 = .ok (.iadd, 1) := by decide +kernel
theorem dX5_push_40 : decode cX5_push 40 = .ok (.aload_n 0, 1) := by decide +kernel
theorem dX5_push_41 : decode cX5_push 41 = .ok (.getfield 11, 3) := by decide +kernel
theorem dX5_push_44 : decode cX5_push 44 = .ok (.arraylength, 1) := by decide +kernel
theorem dX5_push_45 : decode cX5_push 45 = .ok (.if_icmp .ge 12, 3) := by decide +kernel
theorem dX5_push_48 : decode cX5_push 48 = .ok (.aload_n 0, 1) := by decide +kernel
theorem dX5_push_49 : decode cX5_push 49 = .ok (.getfield 17, 3) := by decide +kernel
theorem dX5_push_52 : decode cX5_push 52 = .ok (.iconst 1, 1) := by decide +kernel
theorem dX5_push_53 : decode cX5_push 53 = .ok (.iadd, 1) := by decide +kernel
theorem dX5_push_54 : decode cX5_push 54 = .ok (.goto 4, 3) := by decide +kernel
theorem dX5_push_57 : decode cX5_push 57 = .ok (.iconst 0, 1) := by decide +kernel
theorem dX5_push_58 : decode cX5_push 58 = .ok (.putfield 17, 3) := by decide +kernel
theorem dX5_push_61 : decode cX5_push 61 = .ok (.aload_n 0, 1) := by decide +kernel
theorem dX5_push_62 : decode cX5_push 62 = .ok (.aload_n 0, 1) := by decide +kernel
theorem dX5_push_63 : decode cX5_push 63 = .ok (.getfield 21, 3) := by decide +kernel
theorem dX5_push_66 : decode cX5_push 66 = .ok (.iconst 1, 1) := by decide +kernel
theorem dX5_push_67 : decode cX5_push 67 = .ok (.iadd, 1) := by decide +kernel
theorem dX5_push_68 : decode cX5_push 68 = .ok (.aload_n 0, 1) := by decide +kernel
theorem dX5_push_69 : decode cX5_push 69 = .ok (.getfield 11, 3) := by decide +kernel
theorem dX5_push_72 : decode cX5_push 72 = .ok (.arraylength, 1) := by decide +kernel
theorem dX5_push_73 : decode cX5_push 73 = .ok (.invokestatic 29, 3) := by decide +kernel
theorem dX5_push_76 : decode cX5_push 76 = .ok (.putfield 21, 3) := by decide +kernel
theorem dX5_push_79 : decode cX5_push 79 = .ok (.return_, 1) := by decide +kernel
theorem dX5_pop_0 : decode cX5_pop 0 = .ok (.aload_n 0, 1) := by decide +kernel
theorem dX5_pop_1 : decode cX5_pop 1 = .ok (.getfield 17, 3) := by decide +kernel
theorem dX5_pop_4 : decode cX5_pop 4 = .ok (.ifCond .le 12, 3) := by decide +kernel
theorem dX5_pop_7 : decode cX5_pop 7 = .ok (.aload_n 0, 1) := by decide +kernel
theorem dX5_pop_8 : decode cX5_pop 8 = .ok (.getfield 17, 3) := by decide +kernel
theorem dX5_pop_11 : decode cX5_pop 11 = .ok (.iconst 1, 1) := by decide +kernel
theorem dX5_pop_12 : decode cX5_pop 12 = .ok (.isub, 1) := by decide +kernel
theorem dX5_pop_13 : decode cX5_pop 13 = .ok (.goto 10, 3) := by decide +kernel
theorem dX5_pop_16 : decode cX5_pop 16 = .ok (.aload_n 0, 1) := by decide +kernel
theorem dX5_pop_17 : decode cX5_pop 17 = .ok (.getfield 11, 3) := by decide +kernel
theorem dX5_pop_20 : decode cX5_pop 20 = .ok (.arraylength, 1) := by decide +kernel
theorem dX5_pop_21 : decode cX5_pop 21 = .ok (.iconst 1, 1) := by decide +kernel
theorem dX5_pop_22 : decode cX5_pop 22 = .ok (.isub, 1) := by decide +kernel
theorem dX5_pop_23 : decode cX5_pop 23 = .ok (.istore_n 2, 1) := by decide +kernel
theorem dX5_pop_24 : decode cX5_pop 24 = .ok (.aload_n 0, 1) := by decide +kernel
theorem dX5_pop_25 : decode cX5_pop 25 = .ok (.getfield 21, 3) := by decide +kernel
theorem dX5_pop_28 : decode cX5_pop 28 = .ok (.ifCond .eq 16, 3) := by decide +kernel
theorem dX5_pop_31 : decode cX5_pop 31 = .ok (.iload_n 2, 1) := by decide +kernel
theorem dX5_pop_32 : decode cX5_pop 32 = .ok (.ifCond .lt 12, 3) := by decide +kernel
theorem dX5_pop_35 : decode cX5_pop 35 = .ok (.iload_n 2, 1) := by decide +kernel
theorem dX5_pop_36 : decode cX5_pop 36 = .ok (.aload_n 0, 1) := by decide +kernel
theorem dX5_pop_37 : decode cX5_pop 37 = .ok (.getfield 11, 3) := by decide +kernel
theorem dX5_pop_40 : decode cX5_pop 40 = .ok (.arraylength, 1) := by decide +kernel
theorem dX5_pop_41 : decode cX5_pop 41 = .ok (.if_icmp .lt 5, 3) := by decide +kernel
theorem dX5_pop_44 : decode cX5_pop 44 = .ok (.iconst 0, 1) := by decide +kernel
theorem dX5_pop_45 : decode cX5_pop 45 = .ok (.ireturn, 1) := by decide +kernel
theorem dX5_pop_46 : decode cX5_pop 46 = .ok (.aload_n 1, 1) := by decide +kernel
theorem dX5_pop_47 : decode cX5_pop 47 = .ok (.aload_n 0, 1) := by decide +kernel
theorem dX5_pop_48 : decode cX5_pop 48 = .ok (.getfield 11, 3) := by decide +kernel
theorem dX5_pop_51 : decode cX5_pop 51 = .ok (.iload_n 2, 1) := by decide +kernel
theorem dX5_pop_52 : decode cX5_pop 52 = .ok (.aaload, 1) := by decide +kernel
theorem dX5_pop_53 : decode cX5_pop 53 = .ok (.invokevirtual 25, 3) := by decide +kernel
theorem dX5_pop_56 : decode cX5_pop 56 = .ok (.aload_n 0, 1) := by decide +kernel
theorem dX5_pop_57 : decode cX5_pop 57 = .ok (.iload_n 2, 1) := by decide +kernel
theorem dX5_pop_58 : decode cX5_pop 58 = .ok (.putfield 17, 3) := by decide +kernel
theorem dX5_pop_61 : decode cX5_pop 61 = .ok (.aload_n 0, 1) := by decide +kernel
theorem dX5_pop_62 : decode cX5_pop 62 = .ok (.dup, 1) := by decide +kernel
theorem dX5_pop_63 : decode cX5_pop 63 = .ok (.getfield 21, 3) := by decide +kernel
theorem dX5_pop_66 : decode cX5_pop 66 = .ok (.iconst 1, 1) := by decide +kernel
theorem dX5_pop_67 : decode cX5_pop 67 = .ok (.isub, 1) := by decide +kernel
theorem dX5_pop_68 : decode cX5_pop 68 = .ok (.putfield 21, 3) := by decide +kernel
theorem dX5_pop_71 : decode cX5_pop 71 = .ok (.iconst 1, 1) := by decide +kernel
theorem dX5_pop_72 : decode cX5_pop 72 = .ok (.ireturn, 1) := by decide +kernel
theorem dX5_clear_0 : decode cX5_clear 0 = .ok (.aload_n 0, 1) := by decide +kernel
theorem dX5_clear_1 : decode cX5_clear 1 = .ok (.iconst 0, 1) := by decide +kernel
theorem dX5_clear_2 : decode cX5_clear 2 = .ok (.putfield 21, 3) := by decide +kernel
theorem dX5_clear_5 : decode cX5_clear 5 = .ok (.return_, 1) := by decide +kernel
theorem dX6_init_0 : decode cX6_init 0 = .ok (.aload_n 0, 1) := by decide +kernel
theorem dX6_init_1 : decode cX6_init 1 = .ok (.invokespecial 1, 3) := by decide +kernel
theorem dX6_init_4 : decode cX6_init 4 = .ok (.aload_n 0, 1) := by decide +kernel
theorem dX6_init_5 : decode cX6_init 5 = .ok (.iload_n 1, 1) := by decide +kernel
theorem dX6_init_6 : decode cX6_init 6 = .ok (.putfield 7, 3) := by decide +kernel
theorem dX6_init_9 : decode cX6_init 9 = .ok (.return_, 1) := by decide +kernel
theorem dX6_copyFrom_0 : decode cX6_copyFrom 0 = .ok (.aload_n 0, 1) := by decide +kernel
